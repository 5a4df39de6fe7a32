section
-- ===== PART A: goes FIRST, ahead of the names: the tables' words, and 'selects' of the private methods out of them =====
/-- a private method of a class that the tables say can be made, by its rows of tables_1 -/
def lw_okq (q : MethodName × Nat) : Prop := (q.1.cls ≠ "java/lang/invoke/MethodHandle" ∧ q.1.cls ≠ "java/lang/invoke/VarHandle") ∧ Cond.instantiable q.1.cls q.2 ∈ tables_1 ∧ Cond.privateMethod q.1 ∈ tables_1 ∧ Cond.instanceMethod q.1 ∈ tables_1
theorem lw_p0 : lw_okq (⟨"BranchTimes", "stands", "(I)Z"⟩, 7) := ⟨⟨by decide +kernel, by decide +kernel⟩, List.mem_of_getElem? (i := 7) (by decide +kernel), List.mem_of_getElem? (i := 64) (by decide +kernel), List.mem_of_getElem? (i := 65) (by decide +kernel)⟩
theorem lw_p1 : lw_okq (⟨"BranchTimes", "isAsking", "()Z"⟩, 7) := ⟨⟨by decide +kernel, by decide +kernel⟩, List.mem_of_getElem? (i := 7) (by decide +kernel), List.mem_of_getElem? (i := 68) (by decide +kernel), List.mem_of_getElem? (i := 69) (by decide +kernel)⟩
theorem lw_p2 : lw_okq (⟨"BranchTimes", "neighbourBits", "()I"⟩, 7) := ⟨⟨by decide +kernel, by decide +kernel⟩, List.mem_of_getElem? (i := 7) (by decide +kernel), List.mem_of_getElem? (i := 72) (by decide +kernel), List.mem_of_getElem? (i := 73) (by decide +kernel)⟩
theorem lw_p3 : lw_okq (⟨"BranchTimes", "tellCuts", "(II)V"⟩, 7) := ⟨⟨by decide +kernel, by decide +kernel⟩, List.mem_of_getElem? (i := 7) (by decide +kernel), List.mem_of_getElem? (i := 87) (by decide +kernel), List.mem_of_getElem? (i := 88) (by decide +kernel)⟩
theorem lw_p4 : lw_okq (⟨"BranchTimes", "isJoinedForStar", "(I)Z"⟩, 7) := ⟨⟨by decide +kernel, by decide +kernel⟩, List.mem_of_getElem? (i := 7) (by decide +kernel), List.mem_of_getElem? (i := 91) (by decide +kernel), List.mem_of_getElem? (i := 92) (by decide +kernel)⟩
theorem lw_p5 : lw_okq (⟨"BranchTimes", "timeOfEffect", "()I"⟩, 7) := ⟨⟨by decide +kernel, by decide +kernel⟩, List.mem_of_getElem? (i := 7) (by decide +kernel), List.mem_of_getElem? (i := 98) (by decide +kernel), List.mem_of_getElem? (i := 99) (by decide +kernel)⟩
theorem lw_p6 : lw_okq (⟨"BranchTimes", "isCrowded", "()Z"⟩, 7) := ⟨⟨by decide +kernel, by decide +kernel⟩, List.mem_of_getElem? (i := 7) (by decide +kernel), List.mem_of_getElem? (i := 102) (by decide +kernel), List.mem_of_getElem? (i := 103) (by decide +kernel)⟩
theorem lw_p7 : lw_okq (⟨"BranchTimes", "tillOrZero", "(I)I"⟩, 7) := ⟨⟨by decide +kernel, by decide +kernel⟩, List.mem_of_getElem? (i := 7) (by decide +kernel), List.mem_of_getElem? (i := 133) (by decide +kernel), List.mem_of_getElem? (i := 134) (by decide +kernel)⟩
theorem lw_p8 : lw_okq (⟨"BranchTimes", "sourcesThatGo", "(I)I"⟩, 7) := ⟨⟨by decide +kernel, by decide +kernel⟩, List.mem_of_getElem? (i := 7) (by decide +kernel), List.mem_of_getElem? (i := 149) (by decide +kernel), List.mem_of_getElem? (i := 150) (by decide +kernel)⟩
theorem lw_p9 : lw_okq (⟨"BranchTimes", "isFirst", "()Z"⟩, 7) := ⟨⟨by decide +kernel, by decide +kernel⟩, List.mem_of_getElem? (i := 7) (by decide +kernel), List.mem_of_getElem? (i := 153) (by decide +kernel), List.mem_of_getElem? (i := 154) (by decide +kernel)⟩
theorem lw_p10 : lw_okq (⟨"BranchTimes", "isCutOff", "(II)Z"⟩, 7) := ⟨⟨by decide +kernel, by decide +kernel⟩, List.mem_of_getElem? (i := 7) (by decide +kernel), List.mem_of_getElem? (i := 157) (by decide +kernel), List.mem_of_getElem? (i := 158) (by decide +kernel)⟩
theorem lw_p11 : lw_okq (⟨"BranchTimes", "groupsThatGo", "()I"⟩, 7) := ⟨⟨by decide +kernel, by decide +kernel⟩, List.mem_of_getElem? (i := 7) (by decide +kernel), List.mem_of_getElem? (i := 168) (by decide +kernel), List.mem_of_getElem? (i := 169) (by decide +kernel)⟩
theorem lw_p12 : lw_okq (⟨"BranchTimes", "countJoined", "()I"⟩, 7) := ⟨⟨by decide +kernel, by decide +kernel⟩, List.mem_of_getElem? (i := 7) (by decide +kernel), List.mem_of_getElem? (i := 172) (by decide +kernel), List.mem_of_getElem? (i := 173) (by decide +kernel)⟩
theorem lw_p13 : lw_okq (⟨"BranchTimesModel", "forgetAll", "()V"⟩, 8) := ⟨⟨by decide +kernel, by decide +kernel⟩, List.mem_of_getElem? (i := 179) (by decide +kernel), List.mem_of_getElem? (i := 185) (by decide +kernel), List.mem_of_getElem? (i := 186) (by decide +kernel)⟩
theorem lw_p14 : lw_okq (⟨"BranchTimesModel", "memberTill", "(I)I"⟩, 8) := ⟨⟨by decide +kernel, by decide +kernel⟩, List.mem_of_getElem? (i := 179) (by decide +kernel), List.mem_of_getElem? (i := 235) (by decide +kernel), List.mem_of_getElem? (i := 236) (by decide +kernel)⟩
theorem lw_p15 : lw_okq (⟨"BranchTimesModel", "isAsking", "()Z"⟩, 8) := ⟨⟨by decide +kernel, by decide +kernel⟩, List.mem_of_getElem? (i := 179) (by decide +kernel), List.mem_of_getElem? (i := 239) (by decide +kernel), List.mem_of_getElem? (i := 240) (by decide +kernel)⟩
def lw_privs_1 : List (MethodName × Nat) := [(⟨"BranchTimes", "stands", "(I)Z"⟩, 7), (⟨"BranchTimes", "isAsking", "()Z"⟩, 7), (⟨"BranchTimes", "neighbourBits", "()I"⟩, 7), (⟨"BranchTimes", "tellCuts", "(II)V"⟩, 7), (⟨"BranchTimes", "isJoinedForStar", "(I)Z"⟩, 7), (⟨"BranchTimes", "timeOfEffect", "()I"⟩, 7), (⟨"BranchTimes", "isCrowded", "()Z"⟩, 7), (⟨"BranchTimes", "tillOrZero", "(I)I"⟩, 7), (⟨"BranchTimes", "sourcesThatGo", "(I)I"⟩, 7), (⟨"BranchTimes", "isFirst", "()Z"⟩, 7), (⟨"BranchTimes", "isCutOff", "(II)Z"⟩, 7), (⟨"BranchTimes", "groupsThatGo", "()I"⟩, 7), (⟨"BranchTimes", "countJoined", "()I"⟩, 7), (⟨"BranchTimesModel", "forgetAll", "()V"⟩, 8), (⟨"BranchTimesModel", "memberTill", "(I)I"⟩, 8), (⟨"BranchTimesModel", "isAsking", "()Z"⟩, 8)]
theorem lw_r1 : ∀ q ∈ lw_privs_1, lw_okq q := List.forall_mem_cons.mpr ⟨lw_p0, List.forall_mem_cons.mpr ⟨lw_p1, List.forall_mem_cons.mpr ⟨lw_p2, List.forall_mem_cons.mpr ⟨lw_p3, List.forall_mem_cons.mpr ⟨lw_p4, List.forall_mem_cons.mpr ⟨lw_p5, List.forall_mem_cons.mpr ⟨lw_p6, List.forall_mem_cons.mpr ⟨lw_p7, List.forall_mem_cons.mpr ⟨lw_p8, List.forall_mem_cons.mpr ⟨lw_p9, List.forall_mem_cons.mpr ⟨lw_p10, List.forall_mem_cons.mpr ⟨lw_p11, List.forall_mem_cons.mpr ⟨lw_p12, List.forall_mem_cons.mpr ⟨lw_p13, List.forall_mem_cons.mpr ⟨lw_p14, List.forall_mem_cons.mpr ⟨lw_p15, fun _ h => absurd h List.not_mem_nil⟩⟩⟩⟩⟩⟩⟩⟩⟩⟩⟩⟩⟩⟩⟩⟩
theorem lw_p16 : lw_okq (⟨"BranchTimesModel", "neighbours", "()I"⟩, 8) := ⟨⟨by decide +kernel, by decide +kernel⟩, List.mem_of_getElem? (i := 179) (by decide +kernel), List.mem_of_getElem? (i := 243) (by decide +kernel), List.mem_of_getElem? (i := 244) (by decide +kernel)⟩
theorem lw_p17 : lw_okq (⟨"BranchTimesModel", "till", "(II)I"⟩, 8) := ⟨⟨by decide +kernel, by decide +kernel⟩, List.mem_of_getElem? (i := 179) (by decide +kernel), List.mem_of_getElem? (i := 258) (by decide +kernel), List.mem_of_getElem? (i := 259) (by decide +kernel)⟩
theorem lw_p18 : lw_okq (⟨"BranchTimesModel", "isCrowded", "()Z"⟩, 8) := ⟨⟨by decide +kernel, by decide +kernel⟩, List.mem_of_getElem? (i := 179) (by decide +kernel), List.mem_of_getElem? (i := 262) (by decide +kernel), List.mem_of_getElem? (i := 263) (by decide +kernel)⟩
theorem lw_p19 : lw_okq (⟨"BranchTimesModel", "isFirst", "()Z"⟩, 8) := ⟨⟨by decide +kernel, by decide +kernel⟩, List.mem_of_getElem? (i := 179) (by decide +kernel), List.mem_of_getElem? (i := 286) (by decide +kernel), List.mem_of_getElem? (i := 287) (by decide +kernel)⟩
theorem lw_p20 : lw_okq (⟨"BranchTimesModel", "isCutOff", "(II)Z"⟩, 8) := ⟨⟨by decide +kernel, by decide +kernel⟩, List.mem_of_getElem? (i := 179) (by decide +kernel), List.mem_of_getElem? (i := 290) (by decide +kernel), List.mem_of_getElem? (i := 291) (by decide +kernel)⟩
theorem lw_p21 : lw_okq (⟨"BranchTimesModel", "going", "()I"⟩, 8) := ⟨⟨by decide +kernel, by decide +kernel⟩, List.mem_of_getElem? (i := 179) (by decide +kernel), List.mem_of_getElem? (i := 298) (by decide +kernel), List.mem_of_getElem? (i := 299) (by decide +kernel)⟩
theorem lw_p22 : lw_okq (⟨"BranchTimesModel", "branches", "()I"⟩, 8) := ⟨⟨by decide +kernel, by decide +kernel⟩, List.mem_of_getElem? (i := 179) (by decide +kernel), List.mem_of_getElem? (i := 303) (by decide +kernel), List.mem_of_getElem? (i := 304) (by decide +kernel)⟩
def lw_privs_2 : List (MethodName × Nat) := [(⟨"BranchTimesModel", "neighbours", "()I"⟩, 8), (⟨"BranchTimesModel", "till", "(II)I"⟩, 8), (⟨"BranchTimesModel", "isCrowded", "()Z"⟩, 8), (⟨"BranchTimesModel", "isFirst", "()Z"⟩, 8), (⟨"BranchTimesModel", "isCutOff", "(II)Z"⟩, 8), (⟨"BranchTimesModel", "going", "()I"⟩, 8), (⟨"BranchTimesModel", "branches", "()I"⟩, 8)]
theorem lw_r2 : ∀ q ∈ lw_privs_2, lw_okq q := List.forall_mem_cons.mpr ⟨lw_p16, List.forall_mem_cons.mpr ⟨lw_p17, List.forall_mem_cons.mpr ⟨lw_p18, List.forall_mem_cons.mpr ⟨lw_p19, List.forall_mem_cons.mpr ⟨lw_p20, List.forall_mem_cons.mpr ⟨lw_p21, List.forall_mem_cons.mpr ⟨lw_p22, fun _ h => absurd h List.not_mem_nil⟩⟩⟩⟩⟩⟩⟩
def lw_privs : List (MethodName × Nat) := lw_privs_1 ++ (lw_privs_2)
def lw_tbl : List Cond := k2_sels lw_privs ++ tables_1
theorem lw_privs_ok : ∀ q ∈ lw_privs, lw_okq q := by
  show ∀ q ∈ lw_privs_1 ++ (lw_privs_2), lw_okq q
  exact List.forall_mem_append.mpr ⟨lw_r1, lw_r2⟩
end
section
/-! ===== BEGIN words of one list among another's, by their places ===== -/
theorem goodIn_r {big : List Cond} (ws : List Cond) (ps : List Nat) (hp : ws = ps.filterMap (fun i => big[i]?)) (h : ws.all goodWord = true) : GoodIn big ws := by
  intro w hw
  have h1 := List.all_eq_true.mp h w hw
  rw [hp] at hw
  obtain ⟨i, -, hi⟩ := List.mem_filterMap.mp hw
  have hm : w ∈ big := by first | exact List.mem_of_getElem? hi | exact List.getElem?_mem hi
  exact ⟨hm, good_of_word h1⟩
theorem goodIn_app {big a b : List Cond} (ha : GoodIn big a) (hb : GoodIn big b) : GoodIn big (a ++ b) := fun w h => (List.mem_append.mp h).elim (ha w) (hb w)
theorem goodIn_ca {big a b : List Cond} {c : Cond} (ha : GoodIn big (c :: a)) (hb : GoodIn big b) : GoodIn big (c :: (a ++ b)) := fun w h => (List.mem_cons.mp h).elim (fun e => ha w (List.mem_cons.mpr (Or.inl e))) (fun h => (List.mem_append.mp h).elim (fun h => ha w (List.mem_cons.mpr (Or.inr h))) (hb w))
theorem goodIn_sub {big ws : List Cond} (hm : ∀ w ∈ ws, w ∈ big) (h : ws.all goodWord = true) : GoodIn big ws := fun w hw => ⟨hm w hw, good_of_word (List.all_eq_true.mp h w hw)⟩
/-! ===== END ===== -/

/-! ===== BEGIN printed: names, fields, word lists, decode rows ===== -/
def RX0 : String := "BranchTimes"
def TX0 : u_T := fun k => match k with
  | 0 => ("BranchTimes", "me", "I", true)
  | 1 => ("BranchTimes", "time", "I", false)
  | 2 => ("BranchTimes", "neighbourTill", "[I", true)
  | 3 => ("BranchTimes", "membersTill", "[I", true)
  | 4 => ("BranchTimes", "joinedTill", "[I", true)
  | 5 => ("BranchTimes", "told", "[I", true)
  | _ => ("BranchTimes", "cutFrom", "[I", true)
def tyX0 : Nat → FieldType := fun k => match k with
  | 0 => .int
  | 1 => .int
  | 2 => .array .int
  | 3 => .array .int
  | 4 => .array .int
  | 5 => .array .int
  | _ => .array .int
abbrev wsX00 : List Cond := u_ws RX0 TX0 7
theorem nmX0 : ∀ a, a < 7 → ∀ b, b < 7 → a ≠ b → (TX0 a).2.1 ≠ (TX0 b).2.1 := by decide +kernel
theorem tyX0_ok : ∀ k, k < 7 → parseFieldDescriptor (TX0 k).2.2.1 = some (tyX0 k) := by decide +kernel
abbrev cX0_init : ByteArray := prog_1_method_1_code
def yX0_init : MethodName := ⟨RX0, "<init>", "(I)V"⟩
abbrev cX0_tick : ByteArray := prog_1_method_2_code
def yX0_tick : MethodName := ⟨RX0, "tick", "(I)I"⟩
abbrev cX0_hello : ByteArray := prog_1_method_3_code
def yX0_hello : MethodName := ⟨RX0, "hello", "(I)Z"⟩
abbrev cX0_report : ByteArray := prog_1_method_4_code
def yX0_report : MethodName := ⟨RX0, "report", "(I)Z"⟩
abbrev cX0_leave : ByteArray := prog_1_method_5_code
def yX0_leave : MethodName := ⟨RX0, "leave", "(I)Z"⟩
abbrev cX0_join : ByteArray := prog_1_method_6_code
def yX0_join : MethodName := ⟨RX0, "join", "(III)Z"⟩
abbrev cX0_prune : ByteArray := prog_1_method_7_code
def yX0_prune : MethodName := ⟨RX0, "prune", "(II)Z"⟩
abbrev cX0_forget : ByteArray := prog_1_method_8_code
def yX0_forget : MethodName := ⟨RX0, "forget", "()V"⟩
abbrev cX0_joined : ByteArray := prog_1_method_9_code
def yX0_joined : MethodName := ⟨RX0, "joined", "(II)I"⟩
abbrev cX0_cut : ByteArray := prog_1_method_10_code
def yX0_cut : MethodName := ⟨RX0, "cut", "(II)I"⟩
abbrev cX0_members : ByteArray := prog_1_method_11_code
def yX0_members : MethodName := ⟨RX0, "members", "(I)I"⟩
abbrev cX0_goes : ByteArray := prog_1_method_12_code
def yX0_goes : MethodName := ⟨RX0, "goes", "(I)I"⟩
abbrev cX0_look : ByteArray := prog_1_method_13_code
def yX0_look : MethodName := ⟨RX0, "look", "(I)I"⟩
abbrev cX0_isGroup : ByteArray := prog_1_method_14_code
def yX0_isGroup : MethodName := ⟨RX0, "isGroup", "(I)Z"⟩
abbrev cX0_isSource : ByteArray := prog_1_method_15_code
def yX0_isSource : MethodName := ⟨RX0, "isSource", "(I)Z"⟩
abbrev cX0_isBranch : ByteArray := prog_1_method_16_code
def yX0_isBranch : MethodName := ⟨RX0, "isBranch", "(I)Z"⟩
abbrev cX0_branchPlace : ByteArray := prog_1_method_17_code
def yX0_branchPlace : MethodName := ⟨RX0, "branchPlace", "(II)I"⟩
abbrev cX0_cutPlace : ByteArray := prog_1_method_18_code
def yX0_cutPlace : MethodName := ⟨RX0, "cutPlace", "(II)I"⟩
abbrev cX0_hasBit : ByteArray := prog_1_method_19_code
def yX0_hasBit : MethodName := ⟨RX0, "hasBit", "(II)Z"⟩
abbrev cX0_oneIf : ByteArray := prog_1_method_20_code
def yX0_oneIf : MethodName := ⟨RX0, "oneIf", "(Z)I"⟩
abbrev cX0_stands : ByteArray := prog_1_method_21_code
def yX0_stands : MethodName := ⟨RX0, "stands", "(I)Z"⟩
abbrev cX0_tillOrZero : ByteArray := prog_1_method_22_code
def yX0_tillOrZero : MethodName := ⟨RX0, "tillOrZero", "(I)I"⟩
abbrev cX0_neighbourBits : ByteArray := prog_1_method_23_code
def yX0_neighbourBits : MethodName := ⟨RX0, "neighbourBits", "()I"⟩
abbrev cX0_isFirst : ByteArray := prog_1_method_24_code
def yX0_isFirst : MethodName := ⟨RX0, "isFirst", "()Z"⟩
abbrev cX0_isAsking : ByteArray := prog_1_method_25_code
def yX0_isAsking : MethodName := ⟨RX0, "isAsking", "()Z"⟩
abbrev cX0_isCrowded : ByteArray := prog_1_method_26_code
def yX0_isCrowded : MethodName := ⟨RX0, "isCrowded", "()Z"⟩
abbrev cX0_timeOfEffect : ByteArray := prog_1_method_27_code
def yX0_timeOfEffect : MethodName := ⟨RX0, "timeOfEffect", "()I"⟩
abbrev cX0_isJoinedForStar : ByteArray := prog_1_method_28_code
def yX0_isJoinedForStar : MethodName := ⟨RX0, "isJoinedForStar", "(I)Z"⟩
abbrev cX0_tellCuts : ByteArray := prog_1_method_29_code
def yX0_tellCuts : MethodName := ⟨RX0, "tellCuts", "(II)V"⟩
abbrev cX0_isCutOff : ByteArray := prog_1_method_30_code
def yX0_isCutOff : MethodName := ⟨RX0, "isCutOff", "(II)Z"⟩
abbrev cX0_sourcesThatGo : ByteArray := prog_1_method_31_code
def yX0_sourcesThatGo : MethodName := ⟨RX0, "sourcesThatGo", "(I)I"⟩
abbrev cX0_groupsThatGo : ByteArray := prog_1_method_32_code
def yX0_groupsThatGo : MethodName := ⟨RX0, "groupsThatGo", "()I"⟩
abbrev cX0_countJoined : ByteArray := prog_1_method_33_code
def yX0_countJoined : MethodName := ⟨RX0, "countJoined", "()I"⟩
def RX1 : String := "BranchTimesModel"
def TX1 : u_T := fun k => match k with
  | 0 => ("BranchTimesModel", "me", "I", true)
  | 1 => ("BranchTimesModel", "time", "I", false)
  | 2 => ("BranchTimesModel", "helloAt", "[I", true)
  | 3 => ("BranchTimesModel", "reportAt", "[I", true)
  | 4 => ("BranchTimesModel", "leftTill", "[I", true)
  | 5 => ("BranchTimesModel", "joinAt", "[I", true)
  | 6 => ("BranchTimesModel", "prunedTill", "[I", true)
  | _ => ("BranchTimesModel", "cutFrom", "[I", true)
def tyX1 : Nat → FieldType := fun k => match k with
  | 0 => .int
  | 1 => .int
  | 2 => .array .int
  | 3 => .array .int
  | 4 => .array .int
  | 5 => .array .int
  | 6 => .array .int
  | _ => .array .int
abbrev wsX10 : List Cond := u_ws RX1 TX1 8
theorem nmX1 : ∀ a, a < 8 → ∀ b, b < 8 → a ≠ b → (TX1 a).2.1 ≠ (TX1 b).2.1 := by decide +kernel
theorem tyX1_ok : ∀ k, k < 8 → parseFieldDescriptor (TX1 k).2.2.1 = some (tyX1 k) := by decide +kernel
abbrev cX1_init : ByteArray := prog_3_method_1_code
def yX1_init : MethodName := ⟨RX1, "<init>", "(I)V"⟩
abbrev cX1_forgetAll : ByteArray := prog_3_method_3_code
def yX1_forgetAll : MethodName := ⟨RX1, "forgetAll", "()V"⟩
abbrev cX1_isGroup : ByteArray := prog_3_method_4_code
def yX1_isGroup : MethodName := ⟨RX1, "isGroup", "(I)Z"⟩
abbrev cX1_isBranch : ByteArray := prog_3_method_5_code
def yX1_isBranch : MethodName := ⟨RX1, "isBranch", "(II)Z"⟩
abbrev cX1_tick : ByteArray := prog_3_method_6_code
def yX1_tick : MethodName := ⟨RX1, "tick", "(I)I"⟩
abbrev cX1_neighbours : ByteArray := prog_3_method_7_code
def yX1_neighbours : MethodName := ⟨RX1, "neighbours", "()I"⟩
abbrev cX1_isFirst : ByteArray := prog_3_method_8_code
def yX1_isFirst : MethodName := ⟨RX1, "isFirst", "()Z"⟩
abbrev cX1_isAsking : ByteArray := prog_3_method_9_code
def yX1_isAsking : MethodName := ⟨RX1, "isAsking", "()Z"⟩
abbrev cX1_isCrowded : ByteArray := prog_3_method_10_code
def yX1_isCrowded : MethodName := ⟨RX1, "isCrowded", "()Z"⟩
abbrev cX1_hello : ByteArray := prog_3_method_11_code
def yX1_hello : MethodName := ⟨RX1, "hello", "(I)Z"⟩
abbrev cX1_memberTill : ByteArray := prog_3_method_12_code
def yX1_memberTill : MethodName := ⟨RX1, "memberTill", "(I)I"⟩
abbrev cX1_report : ByteArray := prog_3_method_13_code
def yX1_report : MethodName := ⟨RX1, "report", "(I)Z"⟩
abbrev cX1_leave : ByteArray := prog_3_method_14_code
def yX1_leave : MethodName := ⟨RX1, "leave", "(I)Z"⟩
abbrev cX1_members : ByteArray := prog_3_method_15_code
def yX1_members : MethodName := ⟨RX1, "members", "(I)I"⟩
abbrev cX1_till : ByteArray := prog_3_method_16_code
def yX1_till : MethodName := ⟨RX1, "till", "(II)I"⟩
abbrev cX1_join : ByteArray := prog_3_method_17_code
def yX1_join : MethodName := ⟨RX1, "join", "(III)Z"⟩
abbrev cX1_prune : ByteArray := prog_3_method_18_code
def yX1_prune : MethodName := ⟨RX1, "prune", "(II)Z"⟩
abbrev cX1_forget : ByteArray := prog_3_method_19_code
def yX1_forget : MethodName := ⟨RX1, "forget", "()V"⟩
abbrev cX1_joined : ByteArray := prog_3_method_20_code
def yX1_joined : MethodName := ⟨RX1, "joined", "(II)I"⟩
abbrev cX1_cut : ByteArray := prog_3_method_21_code
def yX1_cut : MethodName := ⟨RX1, "cut", "(II)I"⟩
abbrev cX1_isCutOff : ByteArray := prog_3_method_22_code
def yX1_isCutOff : MethodName := ⟨RX1, "isCutOff", "(II)Z"⟩
abbrev cX1_goes : ByteArray := prog_3_method_23_code
def yX1_goes : MethodName := ⟨RX1, "goes", "(I)I"⟩
abbrev cX1_look : ByteArray := prog_3_method_24_code
def yX1_look : MethodName := ⟨RX1, "look", "(I)I"⟩
abbrev cX1_going : ByteArray := prog_3_method_25_code
def yX1_going : MethodName := ⟨RX1, "going", "()I"⟩
abbrev cX1_branches : ByteArray := prog_3_method_26_code
def yX1_branches : MethodName := ⟨RX1, "branches", "()I"⟩
def RJ6 : String := "java/lang/Integer"
def TJ6 : u_T := fun k => match k with
  | _ => ("", "", "", false)
def tyJ6 : Nat → FieldType := fun k => match k with
  | _ => .int
abbrev wsJ60 : List Cond := u_ws RJ6 TJ6 0
theorem nmJ6 : ∀ a, a < 0 → ∀ b, b < 0 → a ≠ b → (TJ6 a).2.1 ≠ (TJ6 b).2.1 := by decide +kernel
theorem tyJ6_ok : ∀ k, k < 0 → parseFieldDescriptor (TJ6 k).2.2.1 = some (tyJ6 k) := by decide +kernel
abbrev cJ6_bitCount_0f7a4 : ByteArray := prog_4_method_49_code
def yJ6_bitCount_0f7a4 : MethodName := ⟨RJ6, "bitCount", "(I)I"⟩
def RJ9 : String := "java/lang/Math"
def TJ9 : u_T := fun k => match k with
  | _ => ("", "", "", false)
def tyJ9 : Nat → FieldType := fun k => match k with
  | _ => .int
abbrev wsJ90 : List Cond := u_ws RJ9 TJ9 0
theorem nmJ9 : ∀ a, a < 0 → ∀ b, b < 0 → a ≠ b → (TJ9 a).2.1 ≠ (TJ9 b).2.1 := by decide +kernel
theorem tyJ9_ok : ∀ k, k < 0 → parseFieldDescriptor (TJ9 k).2.2.1 = some (tyJ9 k) := by decide +kernel
abbrev cJ9_max_7cf53 : ByteArray := prog_5_method_65_code
def yJ9_max_7cf53 : MethodName := ⟨RJ9, "max", "(II)I"⟩
abbrev cJ9_min_7cf53 : ByteArray := prog_5_method_69_code
def yJ9_min_7cf53 : MethodName := ⟨RJ9, "min", "(II)I"⟩
def RJ7 : String := "java/util/Arrays"
def TJ7 : u_T := fun k => match k with
  | _ => ("", "", "", false)
def tyJ7 : Nat → FieldType := fun k => match k with
  | _ => .int
abbrev wsJ70 : List Cond := u_ws RJ7 TJ7 0
theorem nmJ7 : ∀ a, a < 0 → ∀ b, b < 0 → a ≠ b → (TJ7 a).2.1 ≠ (TJ7 b).2.1 := by decide +kernel
theorem tyJ7_ok : ∀ k, k < 0 → parseFieldDescriptor (TJ7 k).2.2.1 = some (tyJ7 k) := by decide +kernel
abbrev cJ7_fill_53178 : ByteArray := prog_6_method_103_code
def yJ7_fill_53178 : MethodName := ⟨RJ7, "fill", "([II)V"⟩
def RL : String := "BranchTimesLaw"
abbrev cL_cell : ByteArray := method_2_code
def yL_cell : MethodName := ⟨RL, "cell", "([II)I"⟩
abbrev cL_law : ByteArray := code
def yL_law : MethodName := ⟨RL, "law", "([I)Z"⟩
def wsX0_init : List Cond := .code yX0_init cX0_init 2 none :: ([.methodLink RX0 3 objectInit, .instanceMethod objectInit, .code objectInit ⟨#[0xb1]⟩ 1 none, .arrayClass .int, .fieldLink RX0 9 "BranchTimes" "neighbourTill" "[I", .fieldLink RX0 13 "BranchTimes" "membersTill" "[I", .fieldLink RX0 16 "BranchTimes" "joinedTill" "[I", .fieldLink RX0 19 "BranchTimes" "told" "[I", .fieldLink RX0 22 "BranchTimes" "cutFrom" "[I", .methodLink RX0 25 Lib.Math.min.name, .static Lib.Math.min.name, .initialized "java/lang/Math", .code Lib.Math.min.name Lib.Math.min.code 2 (some .int), .methodLink RX0 31 Lib.Math.max.name, .static Lib.Math.max.name, .code Lib.Math.max.name Lib.Math.max.code 2 (some .int), .fieldLink RX0 34 "BranchTimes" "me" "I", .fieldLink RX0 38 "BranchTimes" "time" "I"] ++ wsX00)
def wsX0_tick : List Cond := .code yX0_tick cX0_tick 2 (some .int) :: ([.fieldLink RX0 38 "BranchTimes" "time" "I", .constant RX0 41 (100000)] ++ wsX00)
def wsX0_hello : List Cond := .code yX0_hello cX0_hello 2 (some .boolean) :: ([.fieldLink RX0 34 "BranchTimes" "me" "I", .fieldLink RX0 9 "BranchTimes" "neighbourTill" "[I", .fieldLink RX0 38 "BranchTimes" "time" "I"] ++ wsX00)
def wsX0_isGroup : List Cond := .code yX0_isGroup cX0_isGroup 1 (some .boolean) :: ([])
def wsX0_report : List Cond := .code yX0_report cX0_report 2 (some .boolean) :: ([.fieldLink RX0 13 "BranchTimes" "membersTill" "[I", .fieldLink RX0 38 "BranchTimes" "time" "I", .methodLink RX0 42 yX0_isGroup, .static yX0_isGroup, .initialized RX0, .code yX0_isGroup cX0_isGroup 1 (some .boolean)] ++ wsX00)
def wsX0_stands : List Cond := .code yX0_stands cX0_stands 2 (some .boolean) :: ([.fieldLink RX0 38 "BranchTimes" "time" "I"] ++ wsX00)
def wsX0_neighbourBits : List Cond := .code yX0_neighbourBits cX0_neighbourBits 3 (some .int) :: ([.fieldLink RX0 9 "BranchTimes" "neighbourTill" "[I", .methodLink RX0 46 yX0_stands, .instanceMethod yX0_stands, .selects RX0 yX0_stands yX0_stands, .initialized RX0, .code yX0_stands cX0_stands 2 (some .boolean), .fieldLink RX0 38 "BranchTimes" "time" "I"] ++ wsX00)
def wsX0_isAsking : List Cond := .code yX0_isAsking cX0_isAsking 2 (some .boolean) :: ([.fieldLink RX0 34 "BranchTimes" "me" "I", .methodLink RX0 94 yX0_neighbourBits, .instanceMethod yX0_neighbourBits, .selects RX0 yX0_neighbourBits yX0_neighbourBits, .initialized RX0, .code yX0_neighbourBits cX0_neighbourBits 3 (some .int), .fieldLink RX0 9 "BranchTimes" "neighbourTill" "[I", .methodLink RX0 46 yX0_stands, .instanceMethod yX0_stands, .selects RX0 yX0_stands yX0_stands, .code yX0_stands cX0_stands 2 (some .boolean), .fieldLink RX0 38 "BranchTimes" "time" "I"] ++ wsX00)
def wsX0_leave : List Cond := .code yX0_leave cX0_leave 2 (some .boolean) :: ([.fieldLink RX0 13 "BranchTimes" "membersTill" "[I", .fieldLink RX0 38 "BranchTimes" "time" "I", .methodLink RX0 25 Lib.Math.min.name, .static Lib.Math.min.name, .initialized "java/lang/Math", .code Lib.Math.min.name Lib.Math.min.code 2 (some .int), .methodLink RX0 42 yX0_isGroup, .static yX0_isGroup, .initialized RX0, .code yX0_isGroup cX0_isGroup 1 (some .boolean), .methodLink RX0 46 yX0_stands, .instanceMethod yX0_stands, .selects RX0 yX0_stands yX0_stands, .code yX0_stands cX0_stands 2 (some .boolean), .methodLink RX0 49 yX0_isAsking, .instanceMethod yX0_isAsking, .selects RX0 yX0_isAsking yX0_isAsking, .code yX0_isAsking cX0_isAsking 2 (some .boolean), .fieldLink RX0 34 "BranchTimes" "me" "I", .methodLink RX0 94 yX0_neighbourBits, .instanceMethod yX0_neighbourBits, .selects RX0 yX0_neighbourBits yX0_neighbourBits, .code yX0_neighbourBits cX0_neighbourBits 3 (some .int), .fieldLink RX0 9 "BranchTimes" "neighbourTill" "[I"] ++ wsX00)
def wsX0_isSource : List Cond := .code yX0_isSource cX0_isSource 1 (some .boolean) :: ([])
def wsX0_isBranch : List Cond := .code yX0_isBranch cX0_isBranch 1 (some .boolean) :: ([.methodLink RX0 78 yX0_isSource, .static yX0_isSource, .initialized RX0, .code yX0_isSource cX0_isSource 1 (some .boolean)])
def wsX0_branchPlace : List Cond := .code yX0_branchPlace cX0_branchPlace 2 (some .int) :: ([])
def wsX0_isJoinedForStar : List Cond := .code yX0_isJoinedForStar cX0_isJoinedForStar 2 (some .boolean) :: ([.fieldLink RX0 16 "BranchTimes" "joinedTill" "[I", .methodLink RX0 61 yX0_branchPlace, .static yX0_branchPlace, .initialized RX0, .code yX0_branchPlace cX0_branchPlace 2 (some .int), .methodLink RX0 46 yX0_stands, .instanceMethod yX0_stands, .selects RX0 yX0_stands yX0_stands, .code yX0_stands cX0_stands 2 (some .boolean), .fieldLink RX0 38 "BranchTimes" "time" "I"] ++ wsX00)
def wsJ6_bitCount_0f7a4 : List Cond := .code yJ6_bitCount_0f7a4 cJ6_bitCount_0f7a4 1 (some .int) :: ([.constant RJ6 265 (1431655765), .constant RJ6 266 (858993459), .constant RJ6 267 (252645135)])
def wsX0_isCrowded : List Cond := .code yX0_isCrowded cX0_isCrowded 1 (some .boolean) :: ([.methodLink RX0 94 yX0_neighbourBits, .instanceMethod yX0_neighbourBits, .selects RX0 yX0_neighbourBits yX0_neighbourBits, .initialized RX0, .code yX0_neighbourBits cX0_neighbourBits 3 (some .int), .fieldLink RX0 9 "BranchTimes" "neighbourTill" "[I", .methodLink RX0 46 yX0_stands, .instanceMethod yX0_stands, .selects RX0 yX0_stands yX0_stands, .code yX0_stands cX0_stands 2 (some .boolean), .fieldLink RX0 38 "BranchTimes" "time" "I", .methodLink RX0 113 yJ6_bitCount_0f7a4, .static yJ6_bitCount_0f7a4, .initialized RJ6, .code yJ6_bitCount_0f7a4 cJ6_bitCount_0f7a4 1 (some .int), .constant RJ6 265 (1431655765), .constant RJ6 266 (858993459), .constant RJ6 267 (252645135)] ++ wsX00)
def wsX0_timeOfEffect : List Cond := .code yX0_timeOfEffect cX0_timeOfEffect 1 (some .int) :: ([.fieldLink RX0 38 "BranchTimes" "time" "I", .methodLink RX0 104 yX0_isCrowded, .instanceMethod yX0_isCrowded, .selects RX0 yX0_isCrowded yX0_isCrowded, .initialized RX0, .code yX0_isCrowded cX0_isCrowded 1 (some .boolean), .methodLink RX0 94 yX0_neighbourBits, .instanceMethod yX0_neighbourBits, .selects RX0 yX0_neighbourBits yX0_neighbourBits, .code yX0_neighbourBits cX0_neighbourBits 3 (some .int), .fieldLink RX0 9 "BranchTimes" "neighbourTill" "[I", .methodLink RX0 46 yX0_stands, .instanceMethod yX0_stands, .selects RX0 yX0_stands yX0_stands, .code yX0_stands cX0_stands 2 (some .boolean), .methodLink RX0 113 yJ6_bitCount_0f7a4, .static yJ6_bitCount_0f7a4, .initialized RJ6, .code yJ6_bitCount_0f7a4 cJ6_bitCount_0f7a4 1 (some .int), .constant RJ6 265 (1431655765), .constant RJ6 266 (858993459), .constant RJ6 267 (252645135)] ++ wsX00)
def wsX0_hasBit : List Cond := .code yX0_hasBit cX0_hasBit 2 (some .boolean) :: ([])
def wsX0_cutPlace : List Cond := .code yX0_cutPlace cX0_cutPlace 2 (some .int) :: ([])
def wsX0_tellCuts_r1 : List Cond := [Cond.fieldLink RX0 19 "BranchTimes" "told" "[I", Cond.fieldLink RX0 22 "BranchTimes" "cutFrom" "[I", Cond.methodLink RX0 81 yX0_isJoinedForStar, Cond.instanceMethod yX0_isJoinedForStar, Cond.selects RX0 yX0_isJoinedForStar yX0_isJoinedForStar, Cond.initialized RX0, Cond.code yX0_isJoinedForStar cX0_isJoinedForStar 2 (some .boolean), Cond.fieldLink RX0 16 "BranchTimes" "joinedTill" "[I", Cond.methodLink RX0 61 yX0_branchPlace, Cond.static yX0_branchPlace, Cond.code yX0_branchPlace cX0_branchPlace 2 (some .int), Cond.methodLink RX0 46 yX0_stands, Cond.instanceMethod yX0_stands, Cond.selects RX0 yX0_stands yX0_stands, Cond.code yX0_stands cX0_stands 2 (some .boolean), Cond.fieldLink RX0 38 "BranchTimes" "time" "I", Cond.methodLink RX0 64 yX0_timeOfEffect, Cond.instanceMethod yX0_timeOfEffect, Cond.selects RX0 yX0_timeOfEffect yX0_timeOfEffect, Cond.code yX0_timeOfEffect cX0_timeOfEffect 1 (some .int), Cond.methodLink RX0 104 yX0_isCrowded, Cond.instanceMethod yX0_isCrowded, Cond.selects RX0 yX0_isCrowded yX0_isCrowded, Cond.code yX0_isCrowded cX0_isCrowded 1 (some .boolean)]
def wsX0_tellCuts_r2 : List Cond := [Cond.methodLink RX0 94 yX0_neighbourBits, Cond.instanceMethod yX0_neighbourBits, Cond.selects RX0 yX0_neighbourBits yX0_neighbourBits, Cond.code yX0_neighbourBits cX0_neighbourBits 3 (some .int), Cond.fieldLink RX0 9 "BranchTimes" "neighbourTill" "[I", Cond.methodLink RX0 113 yJ6_bitCount_0f7a4, Cond.static yJ6_bitCount_0f7a4, Cond.initialized RJ6, Cond.code yJ6_bitCount_0f7a4 cJ6_bitCount_0f7a4 1 (some .int), Cond.constant RJ6 265 (1431655765), Cond.constant RJ6 266 (858993459), Cond.constant RJ6 267 (252645135), Cond.methodLink RX0 84 yX0_hasBit, Cond.static yX0_hasBit, Cond.code yX0_hasBit cX0_hasBit 2 (some .boolean), Cond.methodLink RX0 88 yX0_cutPlace, Cond.static yX0_cutPlace, Cond.code yX0_cutPlace cX0_cutPlace 2 (some .int)]
def wsX0_tellCuts : List Cond := .code yX0_tellCuts cX0_tellCuts 7 none :: ((wsX0_tellCuts_r1 ++ wsX0_tellCuts_r2) ++ wsX00)
def wsX0_join_r1 : List Cond := [Cond.constant RX0 56 (65535), Cond.fieldLink RX0 16 "BranchTimes" "joinedTill" "[I", Cond.fieldLink RX0 38 "BranchTimes" "time" "I", Cond.methodLink RX0 42 yX0_isGroup, Cond.static yX0_isGroup, Cond.initialized RX0, Cond.code yX0_isGroup cX0_isGroup 1 (some .boolean), Cond.methodLink RX0 53 yX0_isBranch, Cond.static yX0_isBranch, Cond.code yX0_isBranch cX0_isBranch 1 (some .boolean), Cond.methodLink RX0 78 yX0_isSource, Cond.static yX0_isSource, Cond.code yX0_isSource cX0_isSource 1 (some .boolean), Cond.methodLink RX0 57 yX0_tellCuts, Cond.instanceMethod yX0_tellCuts, Cond.selects RX0 yX0_tellCuts yX0_tellCuts, Cond.code yX0_tellCuts cX0_tellCuts 7 none, Cond.fieldLink RX0 19 "BranchTimes" "told" "[I", Cond.fieldLink RX0 22 "BranchTimes" "cutFrom" "[I", Cond.methodLink RX0 81 yX0_isJoinedForStar, Cond.instanceMethod yX0_isJoinedForStar, Cond.selects RX0 yX0_isJoinedForStar yX0_isJoinedForStar, Cond.code yX0_isJoinedForStar cX0_isJoinedForStar 2 (some .boolean), Cond.methodLink RX0 61 yX0_branchPlace]
def wsX0_join_r2 : List Cond := [Cond.static yX0_branchPlace, Cond.code yX0_branchPlace cX0_branchPlace 2 (some .int), Cond.methodLink RX0 46 yX0_stands, Cond.instanceMethod yX0_stands, Cond.selects RX0 yX0_stands yX0_stands, Cond.code yX0_stands cX0_stands 2 (some .boolean), Cond.methodLink RX0 64 yX0_timeOfEffect, Cond.instanceMethod yX0_timeOfEffect, Cond.selects RX0 yX0_timeOfEffect yX0_timeOfEffect, Cond.code yX0_timeOfEffect cX0_timeOfEffect 1 (some .int), Cond.methodLink RX0 104 yX0_isCrowded, Cond.instanceMethod yX0_isCrowded, Cond.selects RX0 yX0_isCrowded yX0_isCrowded, Cond.code yX0_isCrowded cX0_isCrowded 1 (some .boolean), Cond.methodLink RX0 94 yX0_neighbourBits, Cond.instanceMethod yX0_neighbourBits, Cond.selects RX0 yX0_neighbourBits yX0_neighbourBits, Cond.code yX0_neighbourBits cX0_neighbourBits 3 (some .int), Cond.fieldLink RX0 9 "BranchTimes" "neighbourTill" "[I", Cond.methodLink RX0 113 yJ6_bitCount_0f7a4, Cond.static yJ6_bitCount_0f7a4, Cond.initialized RJ6, Cond.code yJ6_bitCount_0f7a4 cJ6_bitCount_0f7a4 1 (some .int), Cond.constant RJ6 265 (1431655765)]
def wsX0_join_r3 : List Cond := [Cond.constant RJ6 266 (858993459), Cond.constant RJ6 267 (252645135), Cond.methodLink RX0 84 yX0_hasBit, Cond.static yX0_hasBit, Cond.code yX0_hasBit cX0_hasBit 2 (some .boolean), Cond.methodLink RX0 88 yX0_cutPlace, Cond.static yX0_cutPlace, Cond.code yX0_cutPlace cX0_cutPlace 2 (some .int)]
def wsX0_join : List Cond := .code yX0_join cX0_join 4 (some .boolean) :: ((wsX0_join_r1 ++ (wsX0_join_r2 ++ wsX0_join_r3)) ++ wsX00)
def wsX0_prune_r1 : List Cond := [Cond.fieldLink RX0 16 "BranchTimes" "joinedTill" "[I", Cond.methodLink RX0 25 Lib.Math.min.name, Cond.static Lib.Math.min.name, Cond.initialized "java/lang/Math", Cond.code Lib.Math.min.name Lib.Math.min.code 2 (some .int), Cond.methodLink RX0 42 yX0_isGroup, Cond.static yX0_isGroup, Cond.initialized RX0, Cond.code yX0_isGroup cX0_isGroup 1 (some .boolean), Cond.methodLink RX0 53 yX0_isBranch, Cond.static yX0_isBranch, Cond.code yX0_isBranch cX0_isBranch 1 (some .boolean), Cond.methodLink RX0 78 yX0_isSource, Cond.static yX0_isSource, Cond.code yX0_isSource cX0_isSource 1 (some .boolean), Cond.methodLink RX0 61 yX0_branchPlace, Cond.static yX0_branchPlace, Cond.code yX0_branchPlace cX0_branchPlace 2 (some .int), Cond.methodLink RX0 46 yX0_stands, Cond.instanceMethod yX0_stands, Cond.selects RX0 yX0_stands yX0_stands, Cond.code yX0_stands cX0_stands 2 (some .boolean), Cond.fieldLink RX0 38 "BranchTimes" "time" "I", Cond.methodLink RX0 64 yX0_timeOfEffect]
def wsX0_prune_r2 : List Cond := [Cond.instanceMethod yX0_timeOfEffect, Cond.selects RX0 yX0_timeOfEffect yX0_timeOfEffect, Cond.code yX0_timeOfEffect cX0_timeOfEffect 1 (some .int), Cond.methodLink RX0 104 yX0_isCrowded, Cond.instanceMethod yX0_isCrowded, Cond.selects RX0 yX0_isCrowded yX0_isCrowded, Cond.code yX0_isCrowded cX0_isCrowded 1 (some .boolean), Cond.methodLink RX0 94 yX0_neighbourBits, Cond.instanceMethod yX0_neighbourBits, Cond.selects RX0 yX0_neighbourBits yX0_neighbourBits, Cond.code yX0_neighbourBits cX0_neighbourBits 3 (some .int), Cond.fieldLink RX0 9 "BranchTimes" "neighbourTill" "[I", Cond.methodLink RX0 113 yJ6_bitCount_0f7a4, Cond.static yJ6_bitCount_0f7a4, Cond.initialized RJ6, Cond.code yJ6_bitCount_0f7a4 cJ6_bitCount_0f7a4 1 (some .int), Cond.constant RJ6 265 (1431655765), Cond.constant RJ6 266 (858993459), Cond.constant RJ6 267 (252645135)]
def wsX0_prune : List Cond := .code yX0_prune cX0_prune 4 (some .boolean) :: ((wsX0_prune_r1 ++ wsX0_prune_r2) ++ wsX00)
def wsJ7_fill_53178 : List Cond := .code yJ7_fill_53178 cJ7_fill_53178 4 none :: ([])
def wsX0_forget : List Cond := .code yX0_forget cX0_forget 1 none :: ([.fieldLink RX0 9 "BranchTimes" "neighbourTill" "[I", .fieldLink RX0 13 "BranchTimes" "membersTill" "[I", .fieldLink RX0 16 "BranchTimes" "joinedTill" "[I", .fieldLink RX0 19 "BranchTimes" "told" "[I", .fieldLink RX0 22 "BranchTimes" "cutFrom" "[I", .methodLink RX0 68 yJ7_fill_53178, .static yJ7_fill_53178, .initialized RJ7, .code yJ7_fill_53178 cJ7_fill_53178 4 none] ++ wsX00)
def wsX0_tillOrZero : List Cond := .code yX0_tillOrZero cX0_tillOrZero 2 (some .int) :: ([.methodLink RX0 46 yX0_stands, .instanceMethod yX0_stands, .selects RX0 yX0_stands yX0_stands, .initialized RX0, .code yX0_stands cX0_stands 2 (some .boolean), .fieldLink RX0 38 "BranchTimes" "time" "I"] ++ wsX00)
def wsX0_joined : List Cond := .code yX0_joined cX0_joined 3 (some .int) :: ([.fieldLink RX0 16 "BranchTimes" "joinedTill" "[I", .methodLink RX0 42 yX0_isGroup, .static yX0_isGroup, .initialized RX0, .code yX0_isGroup cX0_isGroup 1 (some .boolean), .methodLink RX0 53 yX0_isBranch, .static yX0_isBranch, .code yX0_isBranch cX0_isBranch 1 (some .boolean), .methodLink RX0 78 yX0_isSource, .static yX0_isSource, .code yX0_isSource cX0_isSource 1 (some .boolean), .methodLink RX0 61 yX0_branchPlace, .static yX0_branchPlace, .code yX0_branchPlace cX0_branchPlace 2 (some .int), .methodLink RX0 74 yX0_tillOrZero, .instanceMethod yX0_tillOrZero, .selects RX0 yX0_tillOrZero yX0_tillOrZero, .code yX0_tillOrZero cX0_tillOrZero 2 (some .int), .methodLink RX0 46 yX0_stands, .instanceMethod yX0_stands, .selects RX0 yX0_stands yX0_stands, .code yX0_stands cX0_stands 2 (some .boolean), .fieldLink RX0 38 "BranchTimes" "time" "I"] ++ wsX00)
def wsX0_cut_r1 : List Cond := [Cond.fieldLink RX0 19 "BranchTimes" "told" "[I", Cond.fieldLink RX0 22 "BranchTimes" "cutFrom" "[I", Cond.methodLink RX0 42 yX0_isGroup, Cond.static yX0_isGroup, Cond.initialized RX0, Cond.code yX0_isGroup cX0_isGroup 1 (some .boolean), Cond.methodLink RX0 78 yX0_isSource, Cond.static yX0_isSource, Cond.code yX0_isSource cX0_isSource 1 (some .boolean), Cond.methodLink RX0 81 yX0_isJoinedForStar, Cond.instanceMethod yX0_isJoinedForStar, Cond.selects RX0 yX0_isJoinedForStar yX0_isJoinedForStar, Cond.code yX0_isJoinedForStar cX0_isJoinedForStar 2 (some .boolean), Cond.fieldLink RX0 16 "BranchTimes" "joinedTill" "[I", Cond.methodLink RX0 61 yX0_branchPlace, Cond.static yX0_branchPlace, Cond.code yX0_branchPlace cX0_branchPlace 2 (some .int), Cond.methodLink RX0 46 yX0_stands, Cond.instanceMethod yX0_stands, Cond.selects RX0 yX0_stands yX0_stands, Cond.code yX0_stands cX0_stands 2 (some .boolean), Cond.fieldLink RX0 38 "BranchTimes" "time" "I", Cond.methodLink RX0 84 yX0_hasBit, Cond.static yX0_hasBit]
def wsX0_cut_r2 : List Cond := [Cond.code yX0_hasBit cX0_hasBit 2 (some .boolean), Cond.methodLink RX0 88 yX0_cutPlace, Cond.static yX0_cutPlace, Cond.code yX0_cutPlace cX0_cutPlace 2 (some .int)]
def wsX0_cut : List Cond := .code yX0_cut cX0_cut 3 (some .int) :: ((wsX0_cut_r1 ++ wsX0_cut_r2) ++ wsX00)
def wsX0_members : List Cond := .code yX0_members cX0_members 2 (some .int) :: ([.fieldLink RX0 13 "BranchTimes" "membersTill" "[I", .methodLink RX0 42 yX0_isGroup, .static yX0_isGroup, .initialized RX0, .code yX0_isGroup cX0_isGroup 1 (some .boolean), .methodLink RX0 74 yX0_tillOrZero, .instanceMethod yX0_tillOrZero, .selects RX0 yX0_tillOrZero yX0_tillOrZero, .code yX0_tillOrZero cX0_tillOrZero 2 (some .int), .methodLink RX0 46 yX0_stands, .instanceMethod yX0_stands, .selects RX0 yX0_stands yX0_stands, .code yX0_stands cX0_stands 2 (some .boolean), .fieldLink RX0 38 "BranchTimes" "time" "I"] ++ wsX00)
def wsX0_isFirst : List Cond := .code yX0_isFirst cX0_isFirst 1 (some .boolean) :: ([.fieldLink RX0 34 "BranchTimes" "me" "I", .methodLink RX0 94 yX0_neighbourBits, .instanceMethod yX0_neighbourBits, .selects RX0 yX0_neighbourBits yX0_neighbourBits, .initialized RX0, .code yX0_neighbourBits cX0_neighbourBits 3 (some .int), .fieldLink RX0 9 "BranchTimes" "neighbourTill" "[I", .methodLink RX0 46 yX0_stands, .instanceMethod yX0_stands, .selects RX0 yX0_stands yX0_stands, .code yX0_stands cX0_stands 2 (some .boolean), .fieldLink RX0 38 "BranchTimes" "time" "I"] ++ wsX00)
def wsX0_isCutOff : List Cond := .code yX0_isCutOff cX0_isCutOff 3 (some .boolean) :: ([.fieldLink RX0 19 "BranchTimes" "told" "[I", .fieldLink RX0 38 "BranchTimes" "time" "I", .fieldLink RX0 22 "BranchTimes" "cutFrom" "[I", .methodLink RX0 84 yX0_hasBit, .static yX0_hasBit, .initialized RX0, .code yX0_hasBit cX0_hasBit 2 (some .boolean), .methodLink RX0 88 yX0_cutPlace, .static yX0_cutPlace, .code yX0_cutPlace cX0_cutPlace 2 (some .int)] ++ wsX00)
def wsX0_sourcesThatGo_r1 : List Cond := [Cond.fieldLink RX0 13 "BranchTimes" "membersTill" "[I", Cond.constant RX0 56 (65535), Cond.fieldLink RX0 16 "BranchTimes" "joinedTill" "[I", Cond.methodLink RX0 46 yX0_stands, Cond.instanceMethod yX0_stands, Cond.selects RX0 yX0_stands yX0_stands, Cond.initialized RX0, Cond.code yX0_stands cX0_stands 2 (some .boolean), Cond.fieldLink RX0 38 "BranchTimes" "time" "I", Cond.methodLink RX0 97 yX0_isFirst, Cond.instanceMethod yX0_isFirst, Cond.selects RX0 yX0_isFirst yX0_isFirst, Cond.code yX0_isFirst cX0_isFirst 1 (some .boolean), Cond.fieldLink RX0 34 "BranchTimes" "me" "I", Cond.methodLink RX0 94 yX0_neighbourBits, Cond.instanceMethod yX0_neighbourBits, Cond.selects RX0 yX0_neighbourBits yX0_neighbourBits, Cond.code yX0_neighbourBits cX0_neighbourBits 3 (some .int), Cond.fieldLink RX0 9 "BranchTimes" "neighbourTill" "[I", Cond.methodLink RX0 81 yX0_isJoinedForStar, Cond.instanceMethod yX0_isJoinedForStar, Cond.selects RX0 yX0_isJoinedForStar yX0_isJoinedForStar, Cond.code yX0_isJoinedForStar cX0_isJoinedForStar 2 (some .boolean), Cond.methodLink RX0 61 yX0_branchPlace]
def wsX0_sourcesThatGo_r2 : List Cond := [Cond.static yX0_branchPlace, Cond.code yX0_branchPlace cX0_branchPlace 2 (some .int), Cond.methodLink RX0 118 yX0_isCutOff, Cond.instanceMethod yX0_isCutOff, Cond.selects RX0 yX0_isCutOff yX0_isCutOff, Cond.code yX0_isCutOff cX0_isCutOff 3 (some .boolean), Cond.fieldLink RX0 19 "BranchTimes" "told" "[I", Cond.fieldLink RX0 22 "BranchTimes" "cutFrom" "[I", Cond.methodLink RX0 84 yX0_hasBit, Cond.static yX0_hasBit, Cond.code yX0_hasBit cX0_hasBit 2 (some .boolean), Cond.methodLink RX0 88 yX0_cutPlace, Cond.static yX0_cutPlace, Cond.code yX0_cutPlace cX0_cutPlace 2 (some .int)]
def wsX0_sourcesThatGo : List Cond := .code yX0_sourcesThatGo cX0_sourcesThatGo 5 (some .int) :: ((wsX0_sourcesThatGo_r1 ++ wsX0_sourcesThatGo_r2) ++ wsX00)
def wsX0_goes_r1 : List Cond := [Cond.methodLink RX0 42 yX0_isGroup, Cond.static yX0_isGroup, Cond.initialized RX0, Cond.code yX0_isGroup cX0_isGroup 1 (some .boolean), Cond.methodLink RX0 91 yX0_sourcesThatGo, Cond.instanceMethod yX0_sourcesThatGo, Cond.selects RX0 yX0_sourcesThatGo yX0_sourcesThatGo, Cond.code yX0_sourcesThatGo cX0_sourcesThatGo 5 (some .int), Cond.fieldLink RX0 13 "BranchTimes" "membersTill" "[I", Cond.constant RX0 56 (65535), Cond.fieldLink RX0 16 "BranchTimes" "joinedTill" "[I", Cond.methodLink RX0 46 yX0_stands, Cond.instanceMethod yX0_stands, Cond.selects RX0 yX0_stands yX0_stands, Cond.code yX0_stands cX0_stands 2 (some .boolean), Cond.fieldLink RX0 38 "BranchTimes" "time" "I", Cond.methodLink RX0 97 yX0_isFirst, Cond.instanceMethod yX0_isFirst, Cond.selects RX0 yX0_isFirst yX0_isFirst, Cond.code yX0_isFirst cX0_isFirst 1 (some .boolean), Cond.fieldLink RX0 34 "BranchTimes" "me" "I", Cond.methodLink RX0 94 yX0_neighbourBits, Cond.instanceMethod yX0_neighbourBits, Cond.selects RX0 yX0_neighbourBits yX0_neighbourBits]
def wsX0_goes_r2 : List Cond := [Cond.code yX0_neighbourBits cX0_neighbourBits 3 (some .int), Cond.fieldLink RX0 9 "BranchTimes" "neighbourTill" "[I", Cond.methodLink RX0 81 yX0_isJoinedForStar, Cond.instanceMethod yX0_isJoinedForStar, Cond.selects RX0 yX0_isJoinedForStar yX0_isJoinedForStar, Cond.code yX0_isJoinedForStar cX0_isJoinedForStar 2 (some .boolean), Cond.methodLink RX0 61 yX0_branchPlace, Cond.static yX0_branchPlace, Cond.code yX0_branchPlace cX0_branchPlace 2 (some .int), Cond.methodLink RX0 118 yX0_isCutOff, Cond.instanceMethod yX0_isCutOff, Cond.selects RX0 yX0_isCutOff yX0_isCutOff, Cond.code yX0_isCutOff cX0_isCutOff 3 (some .boolean), Cond.fieldLink RX0 19 "BranchTimes" "told" "[I", Cond.fieldLink RX0 22 "BranchTimes" "cutFrom" "[I", Cond.methodLink RX0 84 yX0_hasBit, Cond.static yX0_hasBit, Cond.code yX0_hasBit cX0_hasBit 2 (some .boolean), Cond.methodLink RX0 88 yX0_cutPlace, Cond.static yX0_cutPlace, Cond.code yX0_cutPlace cX0_cutPlace 2 (some .int)]
def wsX0_goes : List Cond := .code yX0_goes cX0_goes 2 (some .int) :: ((wsX0_goes_r1 ++ wsX0_goes_r2) ++ wsX00)
def wsX0_oneIf : List Cond := .code yX0_oneIf cX0_oneIf 1 (some .int) :: ([])
def wsX0_groupsThatGo_r1 : List Cond := [Cond.methodLink RX0 91 yX0_sourcesThatGo, Cond.instanceMethod yX0_sourcesThatGo, Cond.selects RX0 yX0_sourcesThatGo yX0_sourcesThatGo, Cond.initialized RX0, Cond.code yX0_sourcesThatGo cX0_sourcesThatGo 5 (some .int), Cond.fieldLink RX0 13 "BranchTimes" "membersTill" "[I", Cond.constant RX0 56 (65535), Cond.fieldLink RX0 16 "BranchTimes" "joinedTill" "[I", Cond.methodLink RX0 46 yX0_stands, Cond.instanceMethod yX0_stands, Cond.selects RX0 yX0_stands yX0_stands, Cond.code yX0_stands cX0_stands 2 (some .boolean), Cond.fieldLink RX0 38 "BranchTimes" "time" "I", Cond.methodLink RX0 97 yX0_isFirst, Cond.instanceMethod yX0_isFirst, Cond.selects RX0 yX0_isFirst yX0_isFirst, Cond.code yX0_isFirst cX0_isFirst 1 (some .boolean), Cond.fieldLink RX0 34 "BranchTimes" "me" "I", Cond.methodLink RX0 94 yX0_neighbourBits, Cond.instanceMethod yX0_neighbourBits, Cond.selects RX0 yX0_neighbourBits yX0_neighbourBits, Cond.code yX0_neighbourBits cX0_neighbourBits 3 (some .int), Cond.fieldLink RX0 9 "BranchTimes" "neighbourTill" "[I", Cond.methodLink RX0 81 yX0_isJoinedForStar]
def wsX0_groupsThatGo_r2 : List Cond := [Cond.instanceMethod yX0_isJoinedForStar, Cond.selects RX0 yX0_isJoinedForStar yX0_isJoinedForStar, Cond.code yX0_isJoinedForStar cX0_isJoinedForStar 2 (some .boolean), Cond.methodLink RX0 61 yX0_branchPlace, Cond.static yX0_branchPlace, Cond.code yX0_branchPlace cX0_branchPlace 2 (some .int), Cond.methodLink RX0 118 yX0_isCutOff, Cond.instanceMethod yX0_isCutOff, Cond.selects RX0 yX0_isCutOff yX0_isCutOff, Cond.code yX0_isCutOff cX0_isCutOff 3 (some .boolean), Cond.fieldLink RX0 19 "BranchTimes" "told" "[I", Cond.fieldLink RX0 22 "BranchTimes" "cutFrom" "[I", Cond.methodLink RX0 84 yX0_hasBit, Cond.static yX0_hasBit, Cond.code yX0_hasBit cX0_hasBit 2 (some .boolean), Cond.methodLink RX0 88 yX0_cutPlace, Cond.static yX0_cutPlace, Cond.code yX0_cutPlace cX0_cutPlace 2 (some .int)]
def wsX0_groupsThatGo : List Cond := .code yX0_groupsThatGo cX0_groupsThatGo 3 (some .int) :: ((wsX0_groupsThatGo_r1 ++ wsX0_groupsThatGo_r2) ++ wsX00)
def wsX0_countJoined : List Cond := .code yX0_countJoined cX0_countJoined 3 (some .int) :: ([.fieldLink RX0 16 "BranchTimes" "joinedTill" "[I", .methodLink RX0 46 yX0_stands, .instanceMethod yX0_stands, .selects RX0 yX0_stands yX0_stands, .initialized RX0, .code yX0_stands cX0_stands 2 (some .boolean), .fieldLink RX0 38 "BranchTimes" "time" "I"] ++ wsX00)
def wsX0_look_r1 : List Cond := [Cond.fieldLink RX0 38 "BranchTimes" "time" "I", Cond.fieldLink RX0 34 "BranchTimes" "me" "I", Cond.methodLink RX0 94 yX0_neighbourBits, Cond.instanceMethod yX0_neighbourBits, Cond.selects RX0 yX0_neighbourBits yX0_neighbourBits, Cond.initialized RX0, Cond.code yX0_neighbourBits cX0_neighbourBits 3 (some .int), Cond.fieldLink RX0 9 "BranchTimes" "neighbourTill" "[I", Cond.methodLink RX0 46 yX0_stands, Cond.instanceMethod yX0_stands, Cond.selects RX0 yX0_stands yX0_stands, Cond.code yX0_stands cX0_stands 2 (some .boolean), Cond.methodLink RX0 97 yX0_isFirst, Cond.instanceMethod yX0_isFirst, Cond.selects RX0 yX0_isFirst yX0_isFirst, Cond.code yX0_isFirst cX0_isFirst 1 (some .boolean), Cond.methodLink RX0 100 yX0_oneIf, Cond.static yX0_oneIf, Cond.code yX0_oneIf cX0_oneIf 1 (some .int), Cond.methodLink RX0 49 yX0_isAsking, Cond.instanceMethod yX0_isAsking, Cond.selects RX0 yX0_isAsking yX0_isAsking, Cond.code yX0_isAsking cX0_isAsking 2 (some .boolean), Cond.methodLink RX0 104 yX0_isCrowded]
def wsX0_look_r2 : List Cond := [Cond.instanceMethod yX0_isCrowded, Cond.selects RX0 yX0_isCrowded yX0_isCrowded, Cond.code yX0_isCrowded cX0_isCrowded 1 (some .boolean), Cond.methodLink RX0 113 yJ6_bitCount_0f7a4, Cond.static yJ6_bitCount_0f7a4, Cond.initialized RJ6, Cond.code yJ6_bitCount_0f7a4 cJ6_bitCount_0f7a4 1 (some .int), Cond.constant RJ6 265 (1431655765), Cond.constant RJ6 266 (858993459), Cond.constant RJ6 267 (252645135), Cond.methodLink RX0 107 yX0_groupsThatGo, Cond.instanceMethod yX0_groupsThatGo, Cond.selects RX0 yX0_groupsThatGo yX0_groupsThatGo, Cond.code yX0_groupsThatGo cX0_groupsThatGo 3 (some .int), Cond.methodLink RX0 91 yX0_sourcesThatGo, Cond.instanceMethod yX0_sourcesThatGo, Cond.selects RX0 yX0_sourcesThatGo yX0_sourcesThatGo, Cond.code yX0_sourcesThatGo cX0_sourcesThatGo 5 (some .int), Cond.fieldLink RX0 13 "BranchTimes" "membersTill" "[I", Cond.constant RX0 56 (65535), Cond.fieldLink RX0 16 "BranchTimes" "joinedTill" "[I", Cond.methodLink RX0 81 yX0_isJoinedForStar, Cond.instanceMethod yX0_isJoinedForStar, Cond.selects RX0 yX0_isJoinedForStar yX0_isJoinedForStar]
def wsX0_look_r3 : List Cond := [Cond.code yX0_isJoinedForStar cX0_isJoinedForStar 2 (some .boolean), Cond.methodLink RX0 61 yX0_branchPlace, Cond.static yX0_branchPlace, Cond.code yX0_branchPlace cX0_branchPlace 2 (some .int), Cond.methodLink RX0 118 yX0_isCutOff, Cond.instanceMethod yX0_isCutOff, Cond.selects RX0 yX0_isCutOff yX0_isCutOff, Cond.code yX0_isCutOff cX0_isCutOff 3 (some .boolean), Cond.fieldLink RX0 19 "BranchTimes" "told" "[I", Cond.fieldLink RX0 22 "BranchTimes" "cutFrom" "[I", Cond.methodLink RX0 84 yX0_hasBit, Cond.static yX0_hasBit, Cond.code yX0_hasBit cX0_hasBit 2 (some .boolean), Cond.methodLink RX0 88 yX0_cutPlace, Cond.static yX0_cutPlace, Cond.code yX0_cutPlace cX0_cutPlace 2 (some .int), Cond.methodLink RX0 110 yX0_countJoined, Cond.instanceMethod yX0_countJoined, Cond.selects RX0 yX0_countJoined yX0_countJoined, Cond.code yX0_countJoined cX0_countJoined 3 (some .int)]
def wsX0_look : List Cond := .code yX0_look cX0_look 2 (some .int) :: ((wsX0_look_r1 ++ (wsX0_look_r2 ++ wsX0_look_r3)) ++ wsX00)
def wsX1_forgetAll : List Cond := .code yX1_forgetAll cX1_forgetAll 2 none :: ([.fieldLink RX1 7 "BranchTimesModel" "helloAt" "[I", .fieldLink RX1 13 "BranchTimesModel" "reportAt" "[I", .fieldLink RX1 19 "BranchTimesModel" "joinAt" "[I", .fieldLink RX1 25 "BranchTimesModel" "cutFrom" "[I"] ++ wsX10)
def wsX1_init : List Cond := .code yX1_init cX1_init 2 none :: ([.methodLink RX1 1 objectInit, .instanceMethod objectInit, .code objectInit ⟨#[0xb1]⟩ 1 none, .arrayClass .int, .fieldLink RX1 7 "BranchTimesModel" "helloAt" "[I", .fieldLink RX1 13 "BranchTimesModel" "reportAt" "[I", .fieldLink RX1 16 "BranchTimesModel" "leftTill" "[I", .fieldLink RX1 19 "BranchTimesModel" "joinAt" "[I", .fieldLink RX1 22 "BranchTimesModel" "prunedTill" "[I", .fieldLink RX1 25 "BranchTimesModel" "cutFrom" "[I", .fieldLink RX1 28 "BranchTimesModel" "me" "I", .methodLink RX1 32 yX1_forgetAll, .instanceMethod yX1_forgetAll, .selects RX1 yX1_forgetAll yX1_forgetAll, .initialized RX1, .code yX1_forgetAll cX1_forgetAll 2 none] ++ wsX10)
def wsX1_isGroup : List Cond := .code yX1_isGroup cX1_isGroup 1 (some .boolean) :: ([])
def wsX1_isBranch : List Cond := .code yX1_isBranch cX1_isBranch 2 (some .boolean) :: ([.methodLink RX1 35 yX1_isGroup, .static yX1_isGroup, .initialized RX1, .code yX1_isGroup cX1_isGroup 1 (some .boolean)])
def wsX1_tick : List Cond := .code yX1_tick cX1_tick 2 (some .int) :: ([.fieldLink RX1 39 "BranchTimesModel" "time" "I", .constant RX1 42 (100000)] ++ wsX10)
def wsX1_neighbours : List Cond := .code yX1_neighbours cX1_neighbours 3 (some .int) :: ([.fieldLink RX1 7 "BranchTimesModel" "helloAt" "[I", .fieldLink RX1 39 "BranchTimesModel" "time" "I"] ++ wsX10)
def wsX1_isFirst : List Cond := .code yX1_isFirst cX1_isFirst 1 (some .boolean) :: ([.fieldLink RX1 28 "BranchTimesModel" "me" "I", .methodLink RX1 43 yX1_neighbours, .instanceMethod yX1_neighbours, .selects RX1 yX1_neighbours yX1_neighbours, .initialized RX1, .code yX1_neighbours cX1_neighbours 3 (some .int), .fieldLink RX1 7 "BranchTimesModel" "helloAt" "[I", .fieldLink RX1 39 "BranchTimesModel" "time" "I"] ++ wsX10)
def wsX1_isAsking : List Cond := .code yX1_isAsking cX1_isAsking 1 (some .boolean) :: ([.fieldLink RX1 28 "BranchTimesModel" "me" "I", .methodLink RX1 43 yX1_neighbours, .instanceMethod yX1_neighbours, .selects RX1 yX1_neighbours yX1_neighbours, .initialized RX1, .code yX1_neighbours cX1_neighbours 3 (some .int), .fieldLink RX1 7 "BranchTimesModel" "helloAt" "[I", .fieldLink RX1 39 "BranchTimesModel" "time" "I"] ++ wsX10)
def wsX1_isCrowded : List Cond := .code yX1_isCrowded cX1_isCrowded 3 (some .boolean) :: ([.methodLink RX1 43 yX1_neighbours, .instanceMethod yX1_neighbours, .selects RX1 yX1_neighbours yX1_neighbours, .initialized RX1, .code yX1_neighbours cX1_neighbours 3 (some .int), .fieldLink RX1 7 "BranchTimesModel" "helloAt" "[I", .fieldLink RX1 39 "BranchTimesModel" "time" "I"] ++ wsX10)
def wsX1_hello : List Cond := .code yX1_hello cX1_hello 2 (some .boolean) :: ([.fieldLink RX1 28 "BranchTimesModel" "me" "I", .fieldLink RX1 7 "BranchTimesModel" "helloAt" "[I", .fieldLink RX1 39 "BranchTimesModel" "time" "I"] ++ wsX10)
def wsX1_memberTill : List Cond := .code yX1_memberTill cX1_memberTill 3 (some .int) :: ([.fieldLink RX1 13 "BranchTimesModel" "reportAt" "[I", .fieldLink RX1 16 "BranchTimesModel" "leftTill" "[I", .fieldLink RX1 39 "BranchTimesModel" "time" "I"] ++ wsX10)
def wsX1_report : List Cond := .code yX1_report cX1_report 2 (some .boolean) :: ([.fieldLink RX1 13 "BranchTimesModel" "reportAt" "[I", .fieldLink RX1 39 "BranchTimesModel" "time" "I", .fieldLink RX1 16 "BranchTimesModel" "leftTill" "[I", .constant RX1 47 (1000000), .methodLink RX1 35 yX1_isGroup, .static yX1_isGroup, .initialized RX1, .code yX1_isGroup cX1_isGroup 1 (some .boolean)] ++ wsX10)
def wsX1_leave : List Cond := .code yX1_leave cX1_leave 2 (some .boolean) :: ([.fieldLink RX1 16 "BranchTimesModel" "leftTill" "[I", .fieldLink RX1 39 "BranchTimesModel" "time" "I", .methodLink RX1 35 yX1_isGroup, .static yX1_isGroup, .initialized RX1, .code yX1_isGroup cX1_isGroup 1 (some .boolean), .methodLink RX1 48 yX1_memberTill, .instanceMethod yX1_memberTill, .selects RX1 yX1_memberTill yX1_memberTill, .code yX1_memberTill cX1_memberTill 3 (some .int), .fieldLink RX1 13 "BranchTimesModel" "reportAt" "[I", .methodLink RX1 52 yX1_isAsking, .instanceMethod yX1_isAsking, .selects RX1 yX1_isAsking yX1_isAsking, .code yX1_isAsking cX1_isAsking 1 (some .boolean), .fieldLink RX1 28 "BranchTimesModel" "me" "I", .methodLink RX1 43 yX1_neighbours, .instanceMethod yX1_neighbours, .selects RX1 yX1_neighbours yX1_neighbours, .code yX1_neighbours cX1_neighbours 3 (some .int), .fieldLink RX1 7 "BranchTimesModel" "helloAt" "[I"] ++ wsX10)
def wsX1_members : List Cond := .code yX1_members cX1_members 2 (some .int) :: ([.methodLink RX1 35 yX1_isGroup, .static yX1_isGroup, .initialized RX1, .code yX1_isGroup cX1_isGroup 1 (some .boolean), .methodLink RX1 48 yX1_memberTill, .instanceMethod yX1_memberTill, .selects RX1 yX1_memberTill yX1_memberTill, .code yX1_memberTill cX1_memberTill 3 (some .int), .fieldLink RX1 13 "BranchTimesModel" "reportAt" "[I", .fieldLink RX1 16 "BranchTimesModel" "leftTill" "[I", .fieldLink RX1 39 "BranchTimesModel" "time" "I"] ++ wsX10)
def wsX1_till : List Cond := .code yX1_till cX1_till 5 (some .int) :: ([.fieldLink RX1 19 "BranchTimesModel" "joinAt" "[I", .fieldLink RX1 22 "BranchTimesModel" "prunedTill" "[I", .fieldLink RX1 39 "BranchTimesModel" "time" "I"] ++ wsX10)
def wsX1_join_r1 : List Cond := [Cond.fieldLink RX1 19 "BranchTimesModel" "joinAt" "[I", Cond.fieldLink RX1 39 "BranchTimesModel" "time" "I", Cond.fieldLink RX1 22 "BranchTimesModel" "prunedTill" "[I", Cond.constant RX1 47 (1000000), Cond.fieldLink RX1 25 "BranchTimesModel" "cutFrom" "[I", Cond.methodLink RX1 56 yX1_isBranch, Cond.static yX1_isBranch, Cond.initialized RX1, Cond.code yX1_isBranch cX1_isBranch 2 (some .boolean), Cond.methodLink RX1 35 yX1_isGroup, Cond.static yX1_isGroup, Cond.code yX1_isGroup cX1_isGroup 1 (some .boolean), Cond.methodLink RX1 60 yX1_till, Cond.instanceMethod yX1_till, Cond.selects RX1 yX1_till yX1_till, Cond.code yX1_till cX1_till 5 (some .int), Cond.methodLink RX1 64 yX1_isCrowded, Cond.instanceMethod yX1_isCrowded, Cond.selects RX1 yX1_isCrowded yX1_isCrowded, Cond.code yX1_isCrowded cX1_isCrowded 3 (some .boolean), Cond.methodLink RX1 43 yX1_neighbours, Cond.instanceMethod yX1_neighbours, Cond.selects RX1 yX1_neighbours yX1_neighbours, Cond.code yX1_neighbours cX1_neighbours 3 (some .int)]
def wsX1_join_r2 : List Cond := [Cond.fieldLink RX1 7 "BranchTimesModel" "helloAt" "[I"]
def wsX1_join : List Cond := .code yX1_join cX1_join 8 (some .boolean) :: ((wsX1_join_r1 ++ wsX1_join_r2) ++ wsX10)
def wsX1_prune : List Cond := .code yX1_prune cX1_prune 5 (some .boolean) :: ([.fieldLink RX1 39 "BranchTimesModel" "time" "I", .fieldLink RX1 22 "BranchTimesModel" "prunedTill" "[I", .methodLink RX1 56 yX1_isBranch, .static yX1_isBranch, .initialized RX1, .code yX1_isBranch cX1_isBranch 2 (some .boolean), .methodLink RX1 35 yX1_isGroup, .static yX1_isGroup, .code yX1_isGroup cX1_isGroup 1 (some .boolean), .methodLink RX1 60 yX1_till, .instanceMethod yX1_till, .selects RX1 yX1_till yX1_till, .code yX1_till cX1_till 5 (some .int), .fieldLink RX1 19 "BranchTimesModel" "joinAt" "[I", .methodLink RX1 64 yX1_isCrowded, .instanceMethod yX1_isCrowded, .selects RX1 yX1_isCrowded yX1_isCrowded, .code yX1_isCrowded cX1_isCrowded 3 (some .boolean), .methodLink RX1 43 yX1_neighbours, .instanceMethod yX1_neighbours, .selects RX1 yX1_neighbours yX1_neighbours, .code yX1_neighbours cX1_neighbours 3 (some .int), .fieldLink RX1 7 "BranchTimesModel" "helloAt" "[I"] ++ wsX10)
def wsX1_forget : List Cond := .code yX1_forget cX1_forget 1 none :: ([.methodLink RX1 32 yX1_forgetAll, .instanceMethod yX1_forgetAll, .selects RX1 yX1_forgetAll yX1_forgetAll, .initialized RX1, .code yX1_forgetAll cX1_forgetAll 2 none, .fieldLink RX1 7 "BranchTimesModel" "helloAt" "[I", .fieldLink RX1 13 "BranchTimesModel" "reportAt" "[I", .fieldLink RX1 19 "BranchTimesModel" "joinAt" "[I", .fieldLink RX1 25 "BranchTimesModel" "cutFrom" "[I"] ++ wsX10)
def wsX1_joined : List Cond := .code yX1_joined cX1_joined 3 (some .int) :: ([.methodLink RX1 56 yX1_isBranch, .static yX1_isBranch, .initialized RX1, .code yX1_isBranch cX1_isBranch 2 (some .boolean), .methodLink RX1 35 yX1_isGroup, .static yX1_isGroup, .code yX1_isGroup cX1_isGroup 1 (some .boolean), .methodLink RX1 60 yX1_till, .instanceMethod yX1_till, .selects RX1 yX1_till yX1_till, .code yX1_till cX1_till 5 (some .int), .fieldLink RX1 19 "BranchTimesModel" "joinAt" "[I", .fieldLink RX1 22 "BranchTimesModel" "prunedTill" "[I", .fieldLink RX1 39 "BranchTimesModel" "time" "I"] ++ wsX10)
def wsX1_cut : List Cond := .code yX1_cut cX1_cut 3 (some .int) :: ([.fieldLink RX1 25 "BranchTimesModel" "cutFrom" "[I", .methodLink RX1 56 yX1_isBranch, .static yX1_isBranch, .initialized RX1, .code yX1_isBranch cX1_isBranch 2 (some .boolean), .methodLink RX1 35 yX1_isGroup, .static yX1_isGroup, .code yX1_isGroup cX1_isGroup 1 (some .boolean), .methodLink RX1 60 yX1_till, .instanceMethod yX1_till, .selects RX1 yX1_till yX1_till, .code yX1_till cX1_till 5 (some .int), .fieldLink RX1 19 "BranchTimesModel" "joinAt" "[I", .fieldLink RX1 22 "BranchTimesModel" "prunedTill" "[I", .fieldLink RX1 39 "BranchTimesModel" "time" "I"] ++ wsX10)
def wsX1_isCutOff : List Cond := .code yX1_isCutOff cX1_isCutOff 3 (some .boolean) :: ([.fieldLink RX1 25 "BranchTimesModel" "cutFrom" "[I", .fieldLink RX1 39 "BranchTimesModel" "time" "I"] ++ wsX10)
def wsX1_goes_r1 : List Cond := [Cond.methodLink RX1 35 yX1_isGroup, Cond.static yX1_isGroup, Cond.initialized RX1, Cond.code yX1_isGroup cX1_isGroup 1 (some .boolean), Cond.methodLink RX1 48 yX1_memberTill, Cond.instanceMethod yX1_memberTill, Cond.selects RX1 yX1_memberTill yX1_memberTill, Cond.code yX1_memberTill cX1_memberTill 3 (some .int), Cond.fieldLink RX1 13 "BranchTimesModel" "reportAt" "[I", Cond.fieldLink RX1 16 "BranchTimesModel" "leftTill" "[I", Cond.fieldLink RX1 39 "BranchTimesModel" "time" "I", Cond.methodLink RX1 67 yX1_isFirst, Cond.instanceMethod yX1_isFirst, Cond.selects RX1 yX1_isFirst yX1_isFirst, Cond.code yX1_isFirst cX1_isFirst 1 (some .boolean), Cond.fieldLink RX1 28 "BranchTimesModel" "me" "I", Cond.methodLink RX1 43 yX1_neighbours, Cond.instanceMethod yX1_neighbours, Cond.selects RX1 yX1_neighbours yX1_neighbours, Cond.code yX1_neighbours cX1_neighbours 3 (some .int), Cond.fieldLink RX1 7 "BranchTimesModel" "helloAt" "[I", Cond.methodLink RX1 60 yX1_till, Cond.instanceMethod yX1_till, Cond.selects RX1 yX1_till yX1_till]
def wsX1_goes_r2 : List Cond := [Cond.code yX1_till cX1_till 5 (some .int), Cond.fieldLink RX1 19 "BranchTimesModel" "joinAt" "[I", Cond.fieldLink RX1 22 "BranchTimesModel" "prunedTill" "[I", Cond.methodLink RX1 70 yX1_isCutOff, Cond.instanceMethod yX1_isCutOff, Cond.selects RX1 yX1_isCutOff yX1_isCutOff, Cond.code yX1_isCutOff cX1_isCutOff 3 (some .boolean), Cond.fieldLink RX1 25 "BranchTimesModel" "cutFrom" "[I"]
def wsX1_goes : List Cond := .code yX1_goes cX1_goes 6 (some .int) :: ((wsX1_goes_r1 ++ wsX1_goes_r2) ++ wsX10)
def wsX1_going_r1 : List Cond := [Cond.methodLink RX1 79 yX1_goes, Cond.instanceMethod yX1_goes, Cond.selects RX1 yX1_goes yX1_goes, Cond.initialized RX1, Cond.code yX1_goes cX1_goes 6 (some .int), Cond.methodLink RX1 35 yX1_isGroup, Cond.static yX1_isGroup, Cond.code yX1_isGroup cX1_isGroup 1 (some .boolean), Cond.methodLink RX1 48 yX1_memberTill, Cond.instanceMethod yX1_memberTill, Cond.selects RX1 yX1_memberTill yX1_memberTill, Cond.code yX1_memberTill cX1_memberTill 3 (some .int), Cond.fieldLink RX1 13 "BranchTimesModel" "reportAt" "[I", Cond.fieldLink RX1 16 "BranchTimesModel" "leftTill" "[I", Cond.fieldLink RX1 39 "BranchTimesModel" "time" "I", Cond.methodLink RX1 67 yX1_isFirst, Cond.instanceMethod yX1_isFirst, Cond.selects RX1 yX1_isFirst yX1_isFirst, Cond.code yX1_isFirst cX1_isFirst 1 (some .boolean), Cond.fieldLink RX1 28 "BranchTimesModel" "me" "I", Cond.methodLink RX1 43 yX1_neighbours, Cond.instanceMethod yX1_neighbours, Cond.selects RX1 yX1_neighbours yX1_neighbours, Cond.code yX1_neighbours cX1_neighbours 3 (some .int)]
def wsX1_going_r2 : List Cond := [Cond.fieldLink RX1 7 "BranchTimesModel" "helloAt" "[I", Cond.methodLink RX1 60 yX1_till, Cond.instanceMethod yX1_till, Cond.selects RX1 yX1_till yX1_till, Cond.code yX1_till cX1_till 5 (some .int), Cond.fieldLink RX1 19 "BranchTimesModel" "joinAt" "[I", Cond.fieldLink RX1 22 "BranchTimesModel" "prunedTill" "[I", Cond.methodLink RX1 70 yX1_isCutOff, Cond.instanceMethod yX1_isCutOff, Cond.selects RX1 yX1_isCutOff yX1_isCutOff, Cond.code yX1_isCutOff cX1_isCutOff 3 (some .boolean), Cond.fieldLink RX1 25 "BranchTimesModel" "cutFrom" "[I"]
def wsX1_going : List Cond := .code yX1_going cX1_going 3 (some .int) :: ((wsX1_going_r1 ++ wsX1_going_r2) ++ wsX10)
def wsX1_branches : List Cond := .code yX1_branches cX1_branches 3 (some .int) :: ([.methodLink RX1 60 yX1_till, .instanceMethod yX1_till, .selects RX1 yX1_till yX1_till, .initialized RX1, .code yX1_till cX1_till 5 (some .int), .fieldLink RX1 19 "BranchTimesModel" "joinAt" "[I", .fieldLink RX1 22 "BranchTimesModel" "prunedTill" "[I", .fieldLink RX1 39 "BranchTimesModel" "time" "I"] ++ wsX10)
def wsX1_look_r1 : List Cond := [Cond.fieldLink RX1 39 "BranchTimesModel" "time" "I", Cond.fieldLink RX1 28 "BranchTimesModel" "me" "I", Cond.methodLink RX1 43 yX1_neighbours, Cond.instanceMethod yX1_neighbours, Cond.selects RX1 yX1_neighbours yX1_neighbours, Cond.initialized RX1, Cond.code yX1_neighbours cX1_neighbours 3 (some .int), Cond.fieldLink RX1 7 "BranchTimesModel" "helloAt" "[I", Cond.methodLink RX1 67 yX1_isFirst, Cond.instanceMethod yX1_isFirst, Cond.selects RX1 yX1_isFirst yX1_isFirst, Cond.code yX1_isFirst cX1_isFirst 1 (some .boolean), Cond.methodLink RX1 52 yX1_isAsking, Cond.instanceMethod yX1_isAsking, Cond.selects RX1 yX1_isAsking yX1_isAsking, Cond.code yX1_isAsking cX1_isAsking 1 (some .boolean), Cond.methodLink RX1 64 yX1_isCrowded, Cond.instanceMethod yX1_isCrowded, Cond.selects RX1 yX1_isCrowded yX1_isCrowded, Cond.code yX1_isCrowded cX1_isCrowded 3 (some .boolean), Cond.methodLink RX1 73 yX1_going, Cond.instanceMethod yX1_going, Cond.selects RX1 yX1_going yX1_going, Cond.code yX1_going cX1_going 3 (some .int)]
def wsX1_look_r2 : List Cond := [Cond.methodLink RX1 79 yX1_goes, Cond.instanceMethod yX1_goes, Cond.selects RX1 yX1_goes yX1_goes, Cond.code yX1_goes cX1_goes 6 (some .int), Cond.methodLink RX1 35 yX1_isGroup, Cond.static yX1_isGroup, Cond.code yX1_isGroup cX1_isGroup 1 (some .boolean), Cond.methodLink RX1 48 yX1_memberTill, Cond.instanceMethod yX1_memberTill, Cond.selects RX1 yX1_memberTill yX1_memberTill, Cond.code yX1_memberTill cX1_memberTill 3 (some .int), Cond.fieldLink RX1 13 "BranchTimesModel" "reportAt" "[I", Cond.fieldLink RX1 16 "BranchTimesModel" "leftTill" "[I", Cond.methodLink RX1 60 yX1_till, Cond.instanceMethod yX1_till, Cond.selects RX1 yX1_till yX1_till, Cond.code yX1_till cX1_till 5 (some .int), Cond.fieldLink RX1 19 "BranchTimesModel" "joinAt" "[I", Cond.fieldLink RX1 22 "BranchTimesModel" "prunedTill" "[I", Cond.methodLink RX1 70 yX1_isCutOff, Cond.instanceMethod yX1_isCutOff, Cond.selects RX1 yX1_isCutOff yX1_isCutOff, Cond.code yX1_isCutOff cX1_isCutOff 3 (some .boolean), Cond.fieldLink RX1 25 "BranchTimesModel" "cutFrom" "[I"]
def wsX1_look_r3 : List Cond := [Cond.methodLink RX1 76 yX1_branches, Cond.instanceMethod yX1_branches, Cond.selects RX1 yX1_branches yX1_branches, Cond.code yX1_branches cX1_branches 3 (some .int)]
def wsX1_look : List Cond := .code yX1_look cX1_look 2 (some .int) :: ((wsX1_look_r1 ++ (wsX1_look_r2 ++ wsX1_look_r3)) ++ wsX10)
def wsJ9_max_7cf53 : List Cond := .code yJ9_max_7cf53 cJ9_max_7cf53 2 (some .int) :: ([])
def wsJ9_min_7cf53 : List Cond := .code yJ9_min_7cf53 cJ9_min_7cf53 2 (some .int) :: ([])
def wsL_cell : List Cond := .code yL_cell cL_cell 2 (some .int) :: ([])
def wsL_law_r1 : List Cond := [Cond.classLink RL 7 RX0, Cond.instantiable RX0 7, Cond.initialized RX0, Cond.classLink RL 18 RX1, Cond.instantiable RX1 8, Cond.initialized RX1, Cond.methodLink RL 9 yL_cell, Cond.static yL_cell, Cond.initialized RL, Cond.code yL_cell cL_cell 2 (some .int), Cond.methodLink RL 15 yX0_init, Cond.instanceMethod yX0_init, Cond.code yX0_init cX0_init 2 none, Cond.methodLink RX0 3 objectInit, Cond.instanceMethod objectInit, Cond.code objectInit ⟨#[0xb1]⟩ 1 none, Cond.arrayClass .int, Cond.fieldLink RX0 9 "BranchTimes" "neighbourTill" "[I", Cond.fieldLink RX0 13 "BranchTimes" "membersTill" "[I", Cond.fieldLink RX0 16 "BranchTimes" "joinedTill" "[I", Cond.fieldLink RX0 19 "BranchTimes" "told" "[I", Cond.fieldLink RX0 22 "BranchTimes" "cutFrom" "[I", Cond.methodLink RX0 25 Lib.Math.min.name, Cond.static Lib.Math.min.name]
def wsL_law_r2 : List Cond := [Cond.initialized "java/lang/Math", Cond.code Lib.Math.min.name Lib.Math.min.code 2 (some .int), Cond.methodLink RX0 31 Lib.Math.max.name, Cond.static Lib.Math.max.name, Cond.code Lib.Math.max.name Lib.Math.max.code 2 (some .int), Cond.fieldLink RX0 34 "BranchTimes" "me" "I", Cond.fieldLink RX0 38 "BranchTimes" "time" "I", Cond.methodLink RL 20 yX1_init, Cond.instanceMethod yX1_init, Cond.code yX1_init cX1_init 2 none, Cond.methodLink RX1 1 objectInit, Cond.fieldLink RX1 7 "BranchTimesModel" "helloAt" "[I", Cond.fieldLink RX1 13 "BranchTimesModel" "reportAt" "[I", Cond.fieldLink RX1 16 "BranchTimesModel" "leftTill" "[I", Cond.fieldLink RX1 19 "BranchTimesModel" "joinAt" "[I", Cond.fieldLink RX1 22 "BranchTimesModel" "prunedTill" "[I", Cond.fieldLink RX1 25 "BranchTimesModel" "cutFrom" "[I", Cond.fieldLink RX1 28 "BranchTimesModel" "me" "I", Cond.methodLink RX1 32 yX1_forgetAll, Cond.instanceMethod yX1_forgetAll, Cond.selects RX1 yX1_forgetAll yX1_forgetAll, Cond.code yX1_forgetAll cX1_forgetAll 2 none, Cond.methodLink RL 21 yX0_tick, Cond.instanceMethod yX0_tick]
def wsL_law_r3 : List Cond := [Cond.selects RX0 yX0_tick yX0_tick, Cond.code yX0_tick cX0_tick 2 (some .int), Cond.constant RX0 41 (100000), Cond.methodLink RL 25 yX1_tick, Cond.instanceMethod yX1_tick, Cond.selects RX1 yX1_tick yX1_tick, Cond.code yX1_tick cX1_tick 2 (some .int), Cond.fieldLink RX1 39 "BranchTimesModel" "time" "I", Cond.constant RX1 42 (100000), Cond.methodLink RL 26 yX0_hello, Cond.instanceMethod yX0_hello, Cond.selects RX0 yX0_hello yX0_hello, Cond.code yX0_hello cX0_hello 2 (some .boolean), Cond.methodLink RL 30 yX1_hello, Cond.instanceMethod yX1_hello, Cond.selects RX1 yX1_hello yX1_hello, Cond.code yX1_hello cX1_hello 2 (some .boolean), Cond.methodLink RL 31 yX0_report, Cond.instanceMethod yX0_report, Cond.selects RX0 yX0_report yX0_report, Cond.code yX0_report cX0_report 2 (some .boolean), Cond.methodLink RX0 42 yX0_isGroup, Cond.static yX0_isGroup, Cond.code yX0_isGroup cX0_isGroup 1 (some .boolean)]
def wsL_law_r4 : List Cond := [Cond.methodLink RL 34 yX1_report, Cond.instanceMethod yX1_report, Cond.selects RX1 yX1_report yX1_report, Cond.code yX1_report cX1_report 2 (some .boolean), Cond.constant RX1 47 (1000000), Cond.methodLink RX1 35 yX1_isGroup, Cond.static yX1_isGroup, Cond.code yX1_isGroup cX1_isGroup 1 (some .boolean), Cond.methodLink RL 35 yX0_leave, Cond.instanceMethod yX0_leave, Cond.selects RX0 yX0_leave yX0_leave, Cond.code yX0_leave cX0_leave 2 (some .boolean), Cond.methodLink RX0 46 yX0_stands, Cond.instanceMethod yX0_stands, Cond.selects RX0 yX0_stands yX0_stands, Cond.code yX0_stands cX0_stands 2 (some .boolean), Cond.methodLink RX0 49 yX0_isAsking, Cond.instanceMethod yX0_isAsking, Cond.selects RX0 yX0_isAsking yX0_isAsking, Cond.code yX0_isAsking cX0_isAsking 2 (some .boolean), Cond.methodLink RX0 94 yX0_neighbourBits, Cond.instanceMethod yX0_neighbourBits, Cond.selects RX0 yX0_neighbourBits yX0_neighbourBits, Cond.code yX0_neighbourBits cX0_neighbourBits 3 (some .int)]
def wsL_law_r5 : List Cond := [Cond.methodLink RL 38 yX1_leave, Cond.instanceMethod yX1_leave, Cond.selects RX1 yX1_leave yX1_leave, Cond.code yX1_leave cX1_leave 2 (some .boolean), Cond.methodLink RX1 48 yX1_memberTill, Cond.instanceMethod yX1_memberTill, Cond.selects RX1 yX1_memberTill yX1_memberTill, Cond.code yX1_memberTill cX1_memberTill 3 (some .int), Cond.methodLink RX1 52 yX1_isAsking, Cond.instanceMethod yX1_isAsking, Cond.selects RX1 yX1_isAsking yX1_isAsking, Cond.code yX1_isAsking cX1_isAsking 1 (some .boolean), Cond.methodLink RX1 43 yX1_neighbours, Cond.instanceMethod yX1_neighbours, Cond.selects RX1 yX1_neighbours yX1_neighbours, Cond.code yX1_neighbours cX1_neighbours 3 (some .int), Cond.methodLink RL 39 yX0_join, Cond.instanceMethod yX0_join, Cond.selects RX0 yX0_join yX0_join, Cond.code yX0_join cX0_join 4 (some .boolean), Cond.constant RX0 56 (65535), Cond.methodLink RX0 53 yX0_isBranch, Cond.static yX0_isBranch, Cond.code yX0_isBranch cX0_isBranch 1 (some .boolean)]
def wsL_law_r6 : List Cond := [Cond.methodLink RX0 78 yX0_isSource, Cond.static yX0_isSource, Cond.code yX0_isSource cX0_isSource 1 (some .boolean), Cond.methodLink RX0 57 yX0_tellCuts, Cond.instanceMethod yX0_tellCuts, Cond.selects RX0 yX0_tellCuts yX0_tellCuts, Cond.code yX0_tellCuts cX0_tellCuts 7 none, Cond.methodLink RX0 81 yX0_isJoinedForStar, Cond.instanceMethod yX0_isJoinedForStar, Cond.selects RX0 yX0_isJoinedForStar yX0_isJoinedForStar, Cond.code yX0_isJoinedForStar cX0_isJoinedForStar 2 (some .boolean), Cond.methodLink RX0 61 yX0_branchPlace, Cond.static yX0_branchPlace, Cond.code yX0_branchPlace cX0_branchPlace 2 (some .int), Cond.methodLink RX0 64 yX0_timeOfEffect, Cond.instanceMethod yX0_timeOfEffect, Cond.selects RX0 yX0_timeOfEffect yX0_timeOfEffect, Cond.code yX0_timeOfEffect cX0_timeOfEffect 1 (some .int), Cond.methodLink RX0 104 yX0_isCrowded, Cond.instanceMethod yX0_isCrowded, Cond.selects RX0 yX0_isCrowded yX0_isCrowded, Cond.code yX0_isCrowded cX0_isCrowded 1 (some .boolean), Cond.methodLink RX0 113 yJ6_bitCount_0f7a4, Cond.static yJ6_bitCount_0f7a4]
def wsL_law_r7 : List Cond := [Cond.initialized RJ6, Cond.code yJ6_bitCount_0f7a4 cJ6_bitCount_0f7a4 1 (some .int), Cond.constant RJ6 265 (1431655765), Cond.constant RJ6 266 (858993459), Cond.constant RJ6 267 (252645135), Cond.methodLink RX0 84 yX0_hasBit, Cond.static yX0_hasBit, Cond.code yX0_hasBit cX0_hasBit 2 (some .boolean), Cond.methodLink RX0 88 yX0_cutPlace, Cond.static yX0_cutPlace, Cond.code yX0_cutPlace cX0_cutPlace 2 (some .int), Cond.methodLink RL 43 yX1_join, Cond.instanceMethod yX1_join, Cond.selects RX1 yX1_join yX1_join, Cond.code yX1_join cX1_join 8 (some .boolean), Cond.methodLink RX1 56 yX1_isBranch, Cond.static yX1_isBranch, Cond.code yX1_isBranch cX1_isBranch 2 (some .boolean), Cond.methodLink RX1 60 yX1_till, Cond.instanceMethod yX1_till, Cond.selects RX1 yX1_till yX1_till, Cond.code yX1_till cX1_till 5 (some .int), Cond.methodLink RX1 64 yX1_isCrowded, Cond.instanceMethod yX1_isCrowded]
def wsL_law_r8 : List Cond := [Cond.selects RX1 yX1_isCrowded yX1_isCrowded, Cond.code yX1_isCrowded cX1_isCrowded 3 (some .boolean), Cond.methodLink RL 44 yX0_prune, Cond.instanceMethod yX0_prune, Cond.selects RX0 yX0_prune yX0_prune, Cond.code yX0_prune cX0_prune 4 (some .boolean), Cond.methodLink RL 48 yX1_prune, Cond.instanceMethod yX1_prune, Cond.selects RX1 yX1_prune yX1_prune, Cond.code yX1_prune cX1_prune 5 (some .boolean), Cond.methodLink RL 49 yX0_forget, Cond.instanceMethod yX0_forget, Cond.selects RX0 yX0_forget yX0_forget, Cond.code yX0_forget cX0_forget 1 none, Cond.methodLink RX0 68 yJ7_fill_53178, Cond.static yJ7_fill_53178, Cond.initialized RJ7, Cond.code yJ7_fill_53178 cJ7_fill_53178 4 none, Cond.methodLink RL 52 yX1_forget, Cond.instanceMethod yX1_forget, Cond.selects RX1 yX1_forget yX1_forget, Cond.code yX1_forget cX1_forget 1 none, Cond.methodLink RL 53 yX0_joined, Cond.instanceMethod yX0_joined]
def wsL_law_r9 : List Cond := [Cond.selects RX0 yX0_joined yX0_joined, Cond.code yX0_joined cX0_joined 3 (some .int), Cond.methodLink RX0 74 yX0_tillOrZero, Cond.instanceMethod yX0_tillOrZero, Cond.selects RX0 yX0_tillOrZero yX0_tillOrZero, Cond.code yX0_tillOrZero cX0_tillOrZero 2 (some .int), Cond.methodLink RL 57 yX1_joined, Cond.instanceMethod yX1_joined, Cond.selects RX1 yX1_joined yX1_joined, Cond.code yX1_joined cX1_joined 3 (some .int), Cond.methodLink RL 58 yX0_cut, Cond.instanceMethod yX0_cut, Cond.selects RX0 yX0_cut yX0_cut, Cond.code yX0_cut cX0_cut 3 (some .int), Cond.methodLink RL 61 yX1_cut, Cond.instanceMethod yX1_cut, Cond.selects RX1 yX1_cut yX1_cut, Cond.code yX1_cut cX1_cut 3 (some .int), Cond.methodLink RL 62 yX0_members, Cond.instanceMethod yX0_members, Cond.selects RX0 yX0_members yX0_members, Cond.code yX0_members cX0_members 2 (some .int), Cond.methodLink RL 65 yX1_members, Cond.instanceMethod yX1_members]
def wsL_law_r10 : List Cond := [Cond.selects RX1 yX1_members yX1_members, Cond.code yX1_members cX1_members 2 (some .int), Cond.methodLink RL 66 yX0_goes, Cond.instanceMethod yX0_goes, Cond.selects RX0 yX0_goes yX0_goes, Cond.code yX0_goes cX0_goes 2 (some .int), Cond.methodLink RX0 91 yX0_sourcesThatGo, Cond.instanceMethod yX0_sourcesThatGo, Cond.selects RX0 yX0_sourcesThatGo yX0_sourcesThatGo, Cond.code yX0_sourcesThatGo cX0_sourcesThatGo 5 (some .int), Cond.methodLink RX0 97 yX0_isFirst, Cond.instanceMethod yX0_isFirst, Cond.selects RX0 yX0_isFirst yX0_isFirst, Cond.code yX0_isFirst cX0_isFirst 1 (some .boolean), Cond.methodLink RX0 118 yX0_isCutOff, Cond.instanceMethod yX0_isCutOff, Cond.selects RX0 yX0_isCutOff yX0_isCutOff, Cond.code yX0_isCutOff cX0_isCutOff 3 (some .boolean), Cond.methodLink RL 69 yX1_goes, Cond.instanceMethod yX1_goes, Cond.selects RX1 yX1_goes yX1_goes, Cond.code yX1_goes cX1_goes 6 (some .int), Cond.methodLink RX1 67 yX1_isFirst, Cond.instanceMethod yX1_isFirst]
def wsL_law_r11 : List Cond := [Cond.selects RX1 yX1_isFirst yX1_isFirst, Cond.code yX1_isFirst cX1_isFirst 1 (some .boolean), Cond.methodLink RX1 70 yX1_isCutOff, Cond.instanceMethod yX1_isCutOff, Cond.selects RX1 yX1_isCutOff yX1_isCutOff, Cond.code yX1_isCutOff cX1_isCutOff 3 (some .boolean), Cond.methodLink RL 70 yX0_look, Cond.instanceMethod yX0_look, Cond.selects RX0 yX0_look yX0_look, Cond.code yX0_look cX0_look 2 (some .int), Cond.methodLink RX0 100 yX0_oneIf, Cond.static yX0_oneIf, Cond.code yX0_oneIf cX0_oneIf 1 (some .int), Cond.methodLink RX0 107 yX0_groupsThatGo, Cond.instanceMethod yX0_groupsThatGo, Cond.selects RX0 yX0_groupsThatGo yX0_groupsThatGo, Cond.code yX0_groupsThatGo cX0_groupsThatGo 3 (some .int), Cond.methodLink RX0 110 yX0_countJoined, Cond.instanceMethod yX0_countJoined, Cond.selects RX0 yX0_countJoined yX0_countJoined, Cond.code yX0_countJoined cX0_countJoined 3 (some .int), Cond.methodLink RL 73 yX1_look, Cond.instanceMethod yX1_look, Cond.selects RX1 yX1_look yX1_look]
def wsL_law_r12 : List Cond := [Cond.code yX1_look cX1_look 2 (some .int), Cond.methodLink RX1 73 yX1_going, Cond.instanceMethod yX1_going, Cond.selects RX1 yX1_going yX1_going, Cond.code yX1_going cX1_going 3 (some .int), Cond.methodLink RX1 79 yX1_goes, Cond.methodLink RX1 76 yX1_branches, Cond.instanceMethod yX1_branches, Cond.selects RX1 yX1_branches yX1_branches, Cond.code yX1_branches cX1_branches 3 (some .int)]
def wsL_law : List Cond := (wsL_law_r1 ++ (wsL_law_r2 ++ (wsL_law_r3 ++ (wsL_law_r4 ++ (wsL_law_r5 ++ (wsL_law_r6 ++ (wsL_law_r7 ++ (wsL_law_r8 ++ (wsL_law_r9 ++ (wsL_law_r10 ++ (wsL_law_r11 ++ wsL_law_r12))))))))))) ++ wsX00 ++ wsX10 ++ ([] : List Cond)
set_option maxRecDepth 20000 in
theorem wsL_law_in : ∀ w ∈ wsL_law, w ∈ lw_tbl := fun w h => (goodIn_p wsL_law [200, 33, 36, 39, 42, 205, 210, 69, 239, 74, 244, 78, 81, 248, 251, 85, 89, 93, 97, 256, 260, 264, 268, 101, 104, 107, 112, 116, 119, 123, 127, 130, 136, 139, 276, 279, 283, 287, 143, 291, 147, 150, 295, 154, 158, 299, 162, 303, 166, 272, 170, 174, 178, 182, 307, 311, 315, 186, 189, 193, 197, 319, 323, 328] (by decide +kernel) (by decide +kernel) w h).1
theorem inlX0 : ∀ w ∈ wsX00, w ∈ wsL_law := fun _ h => List.mem_append_left _ (List.mem_append_left _ (List.mem_append_right _ h))
theorem inX0 : ∀ w ∈ wsX00, w ∈ lw_tbl := fun w h => wsL_law_in w (inlX0 w h)
theorem inlX1 : ∀ w ∈ wsX10, w ∈ wsL_law := fun _ h => List.mem_append_left _ (List.mem_append_right _ h)
theorem inX1 : ∀ w ∈ wsX10, w ∈ lw_tbl := fun w h => wsL_law_in w (inlX1 w h)
theorem inJ6 : ∀ w ∈ wsJ60, w ∈ lw_tbl := by decide +kernel
theorem inJ9 : ∀ w ∈ wsJ90, w ∈ lw_tbl := by decide +kernel
theorem inJ7 : ∀ w ∈ wsJ70, w ∈ lw_tbl := by decide +kernel
abbrev vwCl : List vw_C := [(RX0, TX0, 7), (RX1, TX1, 8)]
end
section
theorem dX0_init_0 : decode cX0_init 0 = .ok (.aload_n 0, 1) := by decide +kernel
theorem dX0_init_1 : decode cX0_init 1 = .ok (.invokespecial 3, 3) := by decide +kernel
theorem dX0_init_4 : decode cX0_init 4 = .ok (.aload_n 0, 1) := by decide +kernel
theorem dX0_init_5 : decode cX0_init 5 = .ok (.bipush 10, 2) := by decide +kernel
theorem dX0_init_7 : decode cX0_init 7 = .ok (.newarray .int, 2) := by decide +kernel
theorem dX0_init_9 : decode cX0_init 9 = .ok (.putfield 9, 3) := by decide +kernel
theorem dX0_init_12 : decode cX0_init 12 = .ok (.aload_n 0, 1) := by decide +kernel
theorem dX0_init_13 : decode cX0_init 13 = .ok (.bipush 8, 2) := by decide +kernel
theorem dX0_init_15 : decode cX0_init 15 = .ok (.newarray .int, 2) := by decide +kernel
theorem dX0_init_17 : decode cX0_init 17 = .ok (.putfield 13, 3) := by decide +kernel
theorem dX0_init_20 : decode cX0_init 20 = .ok (.aload_n 0, 1) := by decide +kernel
theorem dX0_init_21 : decode cX0_init 21 = .ok (.sipush 136, 3) := by decide +kernel
theorem dX0_init_24 : decode cX0_init 24 = .ok (.newarray .int, 2) := by decide +kernel
theorem dX0_init_26 : decode cX0_init 26 = .ok (.putfield 16, 3) := by decide +kernel
theorem dX0_init_29 : decode cX0_init 29 = .ok (.aload_n 0, 1) := by decide +kernel
theorem dX0_init_30 : decode cX0_init 30 = .ok (.bipush 8, 2) := by decide +kernel
theorem dX0_init_32 : decode cX0_init 32 = .ok (.newarray .int, 2) := by decide +kernel
theorem dX0_init_34 : decode cX0_init 34 = .ok (.putfield 19, 3) := by decide +kernel
theorem dX0_init_37 : decode cX0_init 37 = .ok (.aload_n 0, 1) := by decide +kernel
theorem dX0_init_38 : decode cX0_init 38 = .ok (.sipush 128, 3) := by decide +kernel
theorem dX0_init_41 : decode cX0_init 41 = .ok (.newarray .int, 2) := by decide +kernel
theorem dX0_init_43 : decode cX0_init 43 = .ok (.putfield 22, 3) := by decide +kernel
theorem dX0_init_46 : decode cX0_init 46 = .ok (.aload_n 0, 1) := by decide +kernel
theorem dX0_init_47 : decode cX0_init 47 = .ok (.iconst 0, 1) := by decide +kernel
theorem dX0_init_48 : decode cX0_init 48 = .ok (.bipush 9, 2) := by decide +kernel
theorem dX0_init_50 : decode cX0_init 50 = .ok (.iload_n 1, 1) := by decide +kernel
theorem dX0_init_51 : decode cX0_init 51 = .ok (.invokestatic 25, 3) := by decide +kernel
theorem dX0_init_54 : decode cX0_init 54 = .ok (.invokestatic 31, 3) := by decide +kernel
theorem dX0_init_57 : decode cX0_init 57 = .ok (.putfield 34, 3) := by decide +kernel
theorem dX0_init_60 : decode cX0_init 60 = .ok (.aload_n 0, 1) := by decide +kernel
theorem dX0_init_61 : decode cX0_init 61 = .ok (.iconst 0, 1) := by decide +kernel
theorem dX0_init_62 : decode cX0_init 62 = .ok (.putfield 38, 3) := by decide +kernel
theorem dX0_init_65 : decode cX0_init 65 = .ok (.return_, 1) := by decide +kernel
theorem dX0_tick_0 : decode cX0_tick 0 = .ok (.iload_n 1, 1) := by decide +kernel
theorem dX0_tick_1 : decode cX0_tick 1 = .ok (.iconst 1, 1) := by decide +kernel
theorem dX0_tick_2 : decode cX0_tick 2 = .ok (.if_icmp .lt 20, 3) := by decide +kernel
theorem dX0_tick_5 : decode cX0_tick 5 = .ok (.iload_n 1, 1) := by decide +kernel
theorem dX0_tick_6 : decode cX0_tick 6 = .ok (.bipush 100, 2) := by decide +kernel
theorem dX0_tick_8 : decode cX0_tick 8 = .ok (.if_icmp .gt 14, 3) := by decide +kernel
theorem dX0_tick_11 : decode cX0_tick 11 = .ok (.aload_n 0, 1) := by decide +kernel
theorem dX0_tick_12 : decode cX0_tick 12 = .ok (.getfield 38, 3) := by decide +kernel
theorem dX0_tick_15 : decode cX0_tick 15 = .ok (.iload_n 1, 1) := by decide +kernel
theorem dX0_tick_16 : decode cX0_tick 16 = .ok (.iadd, 1) := by decide +kernel
theorem dX0_tick_17 : decode cX0_tick 17 = .ok (.ldc 41, 2) := by decide +kernel
theorem dX0_tick_19 : decode cX0_tick 19 = .ok (.if_icmp .le 5, 3) := by decide +kernel
theorem dX0_tick_22 : decode cX0_tick 22 = .ok (.iconst (-1), 1) := by decide +kernel
theorem dX0_tick_23 : decode cX0_tick 23 = .ok (.ireturn, 1) := by decide +kernel
theorem dX0_tick_24 : decode cX0_tick 24 = .ok (.aload_n 0, 1) := by decide +kernel
theorem dX0_tick_25 : decode cX0_tick 25 = .ok (.dup, 1) := by decide +kernel
theorem dX0_tick_26 : decode cX0_tick 26 = .ok (.getfield 38, 3) := by decide +kernel
theorem dX0_tick_29 : decode cX0_tick 29 = .ok (.iload_n 1, 1) := by decide +kernel
theorem dX0_tick_30 : decode cX0_tick 30 = .ok (.iadd, 1) := by decide +kernel
theorem dX0_tick_31 : decode cX0_tick 31 = .ok (.putfield 38, 3) := by decide +kernel
theorem dX0_tick_34 : decode cX0_tick 34 = .ok (.aload_n 0, 1) := by decide +kernel
theorem dX0_tick_35 : decode cX0_tick 35 = .ok (.getfield 38, 3) := by decide +kernel
theorem dX0_tick_38 : decode cX0_tick 38 = .ok (.ireturn, 1) := by decide +kernel
theorem dX0_hello_0 : decode cX0_hello 0 = .ok (.iload_n 1, 1) := by decide +kernel
theorem dX0_hello_1 : decode cX0_hello 1 = .ok (.ifCond .lt 17, 3) := by decide +kernel
theorem dX0_hello_4 : decode cX0_hello 4 = .ok (.iload_n 1, 1) := by decide +kernel
theorem dX0_hello_5 : decode cX0_hello 5 = .ok (.bipush 10, 2) := by decide +kernel
theorem dX0_hello_7 : decode cX0_hello 7 = .ok (.if_icmp .ge 11, 3) := by decide +kernel
theorem dX0_hello_10 : decode cX0_hello 10 = .ok (.iload_n 1, 1) := by decide +kernel
theorem dX0_hello_11 : decode cX0_hello 11 = .ok (.aload_n 0, 1) := by decide +kernel
theorem dX0_hello_12 : decode cX0_hello 12 = .ok (.getfield 34, 3) := by decide +kernel
theorem dX0_hello_15 : decode cX0_hello 15 = .ok (.if_icmp .ne 5, 3) := by decide +kernel
theorem dX0_hello_18 : decode cX0_hello 18 = .ok (.iconst 0, 1) := by decide +kernel
theorem dX0_hello_19 : decode cX0_hello 19 = .ok (.ireturn, 1) := by decide +kernel
theorem dX0_hello_20 : decode cX0_hello 20 = .ok (.aload_n 0, 1) := by decide +kernel
theorem dX0_hello_21 : decode cX0_hello 21 = .ok (.getfield 9, 3) := by decide +kernel
theorem dX0_hello_24 : decode cX0_hello 24 = .ok (.iload_n 1, 1) := by decide +kernel
theorem dX0_hello_25 : decode cX0_hello 25 = .ok (.aload_n 0, 1) := by decide +kernel
theorem dX0_hello_26 : decode cX0_hello 26 = .ok (.getfield 38, 3) := by decide +kernel
theorem dX0_hello_29 : decode cX0_hello 29 = .ok (.bipush 65, 2) := by decide +kernel
theorem dX0_hello_31 : decode cX0_hello 31 = .ok (.iadd, 1) := by decide +kernel
theorem dX0_hello_32 : decode cX0_hello 32 = .ok (.iastore, 1) := by decide +kernel
theorem dX0_hello_33 : decode cX0_hello 33 = .ok (.iconst 1, 1) := by decide +kernel
theorem dX0_hello_34 : decode cX0_hello 34 = .ok (.ireturn, 1) := by decide +kernel
set_option maxRecDepth 20000 in
theorem ggX0_report_X0_isGroup : GoodIn wsX0_report wsX0_isGroup := goodIn_r _ [6] (by decide +kernel) (by decide +kernel)
set_option maxRecDepth 20000 in
theorem gX0_report_X0_isGroup : GoodIn wsX0_report (va_wsS RX0 42 yX0_isGroup wsX0_isGroup) := goodIn_app (goodIn_of _ (by decide +kernel)) ggX0_report_X0_isGroup
theorem dX0_report_0 : decode cX0_report 0 = .ok (.iload_n 1, 1) := by decide +kernel
theorem dX0_report_1 : decode cX0_report 1 = .ok (.invokestatic 42, 3) := by decide +kernel
theorem dX0_report_4 : decode cX0_report 4 = .ok (.ifCond .ne 5, 3) := by decide +kernel
theorem dX0_report_7 : decode cX0_report 7 = .ok (.iconst 0, 1) := by decide +kernel
theorem dX0_report_8 : decode cX0_report 8 = .ok (.ireturn, 1) := by decide +kernel
theorem dX0_report_9 : decode cX0_report 9 = .ok (.aload_n 0, 1) := by decide +kernel
theorem dX0_report_10 : decode cX0_report 10 = .ok (.getfield 13, 3) := by decide +kernel
theorem dX0_report_13 : decode cX0_report 13 = .ok (.iload_n 1, 1) := by decide +kernel
theorem dX0_report_14 : decode cX0_report 14 = .ok (.aload_n 0, 1) := by decide +kernel
theorem dX0_report_15 : decode cX0_report 15 = .ok (.getfield 38, 3) := by decide +kernel
theorem dX0_report_18 : decode cX0_report 18 = .ok (.bipush 60, 2) := by decide +kernel
theorem dX0_report_20 : decode cX0_report 20 = .ok (.iadd, 1) := by decide +kernel
theorem dX0_report_21 : decode cX0_report 21 = .ok (.iastore, 1) := by decide +kernel
theorem dX0_report_22 : decode cX0_report 22 = .ok (.iconst 1, 1) := by decide +kernel
theorem dX0_report_23 : decode cX0_report 23 = .ok (.ireturn, 1) := by decide +kernel
set_option maxRecDepth 20000 in
theorem ggX0_leave_X0_isGroup : GoodIn wsX0_leave wsX0_isGroup := goodIn_r _ [10] (by decide +kernel) (by decide +kernel)
set_option maxRecDepth 20000 in
theorem gX0_leave_X0_isGroup : GoodIn wsX0_leave (va_wsS RX0 42 yX0_isGroup wsX0_isGroup) := goodIn_app (goodIn_of _ (by decide +kernel)) ggX0_leave_X0_isGroup
set_option maxRecDepth 20000 in
theorem ggX0_leave_X0_stands : GoodIn wsX0_leave wsX0_stands := goodIn_r _ [14, 2, 25, 26, 27, 28, 29, 30, 31] (by decide +kernel) (by decide +kernel)
set_option maxRecDepth 20000 in
theorem gX0_leave_X0_stands : GoodIn wsX0_leave (wsV RX0 46 RX0 yX0_stands wsX0_stands) := goodIn_app (goodIn_of _ (by decide +kernel)) ggX0_leave_X0_stands
set_option maxRecDepth 20000 in
theorem ggX0_leave_X0_isAsking : GoodIn wsX0_leave wsX0_isAsking := goodIn_r _ [18, 19, 20, 21, 22, 9, 23, 24, 11, 12, 13, 14, 2, 25, 26, 27, 28, 29, 30, 31] (by decide +kernel) (by decide +kernel)
set_option maxRecDepth 20000 in
theorem gX0_leave_X0_isAsking : GoodIn wsX0_leave (wsV RX0 49 RX0 yX0_isAsking wsX0_isAsking) := goodIn_app (goodIn_of _ (by decide +kernel)) ggX0_leave_X0_isAsking
theorem dX0_leave_0 : decode cX0_leave 0 = .ok (.iload_n 1, 1) := by decide +kernel
theorem dX0_leave_1 : decode cX0_leave 1 = .ok (.invokestatic 42, 3) := by decide +kernel
theorem dX0_leave_4 : decode cX0_leave 4 = .ok (.ifCond .eq 23, 3) := by decide +kernel
theorem dX0_leave_7 : decode cX0_leave 7 = .ok (.aload_n 0, 1) := by decide +kernel
theorem dX0_leave_8 : decode cX0_leave 8 = .ok (.aload_n 0, 1) := by decide +kernel
theorem dX0_leave_9 : decode cX0_leave 9 = .ok (.getfield 13, 3) := by decide +kernel
theorem dX0_leave_12 : decode cX0_leave 12 = .ok (.iload_n 1, 1) := by decide +kernel
theorem dX0_leave_13 : decode cX0_leave 13 = .ok (.iaload, 1) := by decide +kernel
theorem dX0_leave_14 : decode cX0_leave 14 = .ok (.invokevirtual 46, 3) := by decide +kernel
theorem dX0_leave_17 : decode cX0_leave 17 = .ok (.ifCond .eq 10, 3) := by decide +kernel
theorem dX0_leave_20 : decode cX0_leave 20 = .ok (.aload_n 0, 1) := by decide +kernel
theorem dX0_leave_21 : decode cX0_leave 21 = .ok (.invokevirtual 49, 3) := by decide +kernel
theorem dX0_leave_24 : decode cX0_leave 24 = .ok (.ifCond .ne 5, 3) := by decide +kernel
theorem dX0_leave_27 : decode cX0_leave 27 = .ok (.iconst 0, 1) := by decide +kernel
theorem dX0_leave_28 : decode cX0_leave 28 = .ok (.ireturn, 1) := by decide +kernel
theorem dX0_leave_29 : decode cX0_leave 29 = .ok (.aload_n 0, 1) := by decide +kernel
theorem dX0_leave_30 : decode cX0_leave 30 = .ok (.getfield 13, 3) := by decide +kernel
theorem dX0_leave_33 : decode cX0_leave 33 = .ok (.iload_n 1, 1) := by decide +kernel
theorem dX0_leave_34 : decode cX0_leave 34 = .ok (.aload_n 0, 1) := by decide +kernel
theorem dX0_leave_35 : decode cX0_leave 35 = .ok (.getfield 13, 3) := by decide +kernel
theorem dX0_leave_38 : decode cX0_leave 38 = .ok (.iload_n 1, 1) := by decide +kernel
theorem dX0_leave_39 : decode cX0_leave 39 = .ok (.iaload, 1) := by decide +kernel
theorem dX0_leave_40 : decode cX0_leave 40 = .ok (.aload_n 0, 1) := by decide +kernel
theorem dX0_leave_41 : decode cX0_leave 41 = .ok (.getfield 38, 3) := by decide +kernel
theorem dX0_leave_44 : decode cX0_leave 44 = .ok (.iconst 4, 1) := by decide +kernel
theorem dX0_leave_45 : decode cX0_leave 45 = .ok (.iadd, 1) := by decide +kernel
theorem dX0_leave_46 : decode cX0_leave 46 = .ok (.invokestatic 25, 3) := by decide +kernel
theorem dX0_leave_49 : decode cX0_leave 49 = .ok (.iastore, 1) := by decide +kernel
theorem dX0_leave_50 : decode cX0_leave 50 = .ok (.iconst 1, 1) := by decide +kernel
theorem dX0_leave_51 : decode cX0_leave 51 = .ok (.ireturn, 1) := by decide +kernel
set_option maxRecDepth 20000 in
theorem ggX0_join_X0_isGroup : GoodIn wsX0_join wsX0_isGroup := goodIn_r _ [7] (by decide +kernel) (by decide +kernel)
set_option maxRecDepth 20000 in
theorem gX0_join_X0_isGroup : GoodIn wsX0_join (va_wsS RX0 42 yX0_isGroup wsX0_isGroup) := goodIn_app (goodIn_of _ (by decide +kernel)) ggX0_join_X0_isGroup
set_option maxRecDepth 20000 in
theorem ggX0_join_X0_isBranch : GoodIn wsX0_join wsX0_isBranch := goodIn_r _ [10, 11, 12, 6, 13] (by decide +kernel) (by decide +kernel)
set_option maxRecDepth 20000 in
theorem gX0_join_X0_isBranch : GoodIn wsX0_join (va_wsS RX0 53 yX0_isBranch wsX0_isBranch) := goodIn_app (goodIn_of _ (by decide +kernel)) ggX0_join_X0_isBranch
set_option maxRecDepth 20000 in
theorem ggX0_join_X0_tellCuts : GoodIn wsX0_join wsX0_tellCuts := goodIn_r _ [17, 18, 19, 20, 21, 22, 6, 23, 2, 24, 25, 26, 27, 28, 29, 30, 3, 31, 32, 33, 34, 35, 36, 37, 38, 39, 40, 41, 42, 43, 44, 45, 46, 47, 48, 49, 50, 51, 52, 53, 54, 55, 56, 57, 58, 59, 60, 61, 62, 63] (by decide +kernel) (by decide +kernel)
set_option maxRecDepth 20000 in
theorem gX0_join_X0_tellCuts : GoodIn wsX0_join (wsV RX0 57 RX0 yX0_tellCuts wsX0_tellCuts) := goodIn_app (goodIn_of _ (by decide +kernel)) ggX0_join_X0_tellCuts
set_option maxRecDepth 20000 in
theorem ggX0_join_X0_branchPlace : GoodIn wsX0_join wsX0_branchPlace := goodIn_r _ [26] (by decide +kernel) (by decide +kernel)
set_option maxRecDepth 20000 in
theorem gX0_join_X0_branchPlace : GoodIn wsX0_join (va_wsS RX0 61 yX0_branchPlace wsX0_branchPlace) := goodIn_app (goodIn_of _ (by decide +kernel)) ggX0_join_X0_branchPlace
theorem dX0_join_0 : decode cX0_join 0 = .ok (.iload_n 1, 1) := by decide +kernel
theorem dX0_join_1 : decode cX0_join 1 = .ok (.invokestatic 42, 3) := by decide +kernel
theorem dX0_join_4 : decode cX0_join 4 = .ok (.ifCond .eq 10, 3) := by decide +kernel
theorem dX0_join_7 : decode cX0_join 7 = .ok (.iload_n 2, 1) := by decide +kernel
theorem dX0_join_8 : decode cX0_join 8 = .ok (.invokestatic 53, 3) := by decide +kernel
theorem dX0_join_11 : decode cX0_join 11 = .ok (.ifCond .ne 5, 3) := by decide +kernel
theorem dX0_join_14 : decode cX0_join 14 = .ok (.iconst 0, 1) := by decide +kernel
theorem dX0_join_15 : decode cX0_join 15 = .ok (.ireturn, 1) := by decide +kernel
theorem dX0_join_16 : decode cX0_join 16 = .ok (.iload_n 2, 1) := by decide +kernel
theorem dX0_join_17 : decode cX0_join 17 = .ok (.iconst (-1), 1) := by decide +kernel
theorem dX0_join_18 : decode cX0_join 18 = .ok (.if_icmp .ne 12, 3) := by decide +kernel
theorem dX0_join_21 : decode cX0_join 21 = .ok (.aload_n 0, 1) := by decide +kernel
theorem dX0_join_22 : decode cX0_join 22 = .ok (.iload_n 1, 1) := by decide +kernel
theorem dX0_join_23 : decode cX0_join 23 = .ok (.iload_n 3, 1) := by decide +kernel
theorem dX0_join_24 : decode cX0_join 24 = .ok (.ldc 56, 2) := by decide +kernel
theorem dX0_join_26 : decode cX0_join 26 = .ok (.iand, 1) := by decide +kernel
theorem dX0_join_27 : decode cX0_join 27 = .ok (.invokevirtual 57, 3) := by decide +kernel
theorem dX0_join_30 : decode cX0_join 30 = .ok (.aload_n 0, 1) := by decide +kernel
theorem dX0_join_31 : decode cX0_join 31 = .ok (.getfield 16, 3) := by decide +kernel
theorem dX0_join_34 : decode cX0_join 34 = .ok (.iload_n 1, 1) := by decide +kernel
theorem dX0_join_35 : decode cX0_join 35 = .ok (.iload_n 2, 1) := by decide +kernel
theorem dX0_join_36 : decode cX0_join 36 = .ok (.invokestatic 61, 3) := by decide +kernel
theorem dX0_join_39 : decode cX0_join 39 = .ok (.aload_n 0, 1) := by decide +kernel
theorem dX0_join_40 : decode cX0_join 40 = .ok (.getfield 38, 3) := by decide +kernel
theorem dX0_join_43 : decode cX0_join 43 = .ok (.bipush 70, 2) := by decide +kernel
theorem dX0_join_45 : decode cX0_join 45 = .ok (.iadd, 1) := by decide +kernel
theorem dX0_join_46 : decode cX0_join 46 = .ok (.iastore, 1) := by decide +kernel
theorem dX0_join_47 : decode cX0_join 47 = .ok (.iconst 1, 1) := by decide +kernel
theorem dX0_join_48 : decode cX0_join 48 = .ok (.ireturn, 1) := by decide +kernel
set_option maxRecDepth 20000 in
theorem ggX0_prune_X0_isGroup : GoodIn wsX0_prune wsX0_isGroup := goodIn_r _ [9] (by decide +kernel) (by decide +kernel)
set_option maxRecDepth 20000 in
theorem gX0_prune_X0_isGroup : GoodIn wsX0_prune (va_wsS RX0 42 yX0_isGroup wsX0_isGroup) := goodIn_app (goodIn_of _ (by decide +kernel)) ggX0_prune_X0_isGroup
set_option maxRecDepth 20000 in
theorem ggX0_prune_X0_isBranch : GoodIn wsX0_prune wsX0_isBranch := goodIn_r _ [12, 13, 14, 8, 15] (by decide +kernel) (by decide +kernel)
set_option maxRecDepth 20000 in
theorem gX0_prune_X0_isBranch : GoodIn wsX0_prune (va_wsS RX0 53 yX0_isBranch wsX0_isBranch) := goodIn_app (goodIn_of _ (by decide +kernel)) ggX0_prune_X0_isBranch
set_option maxRecDepth 20000 in
theorem ggX0_prune_X0_branchPlace : GoodIn wsX0_prune wsX0_branchPlace := goodIn_r _ [18] (by decide +kernel) (by decide +kernel)
set_option maxRecDepth 20000 in
theorem gX0_prune_X0_branchPlace : GoodIn wsX0_prune (va_wsS RX0 61 yX0_branchPlace wsX0_branchPlace) := goodIn_app (goodIn_of _ (by decide +kernel)) ggX0_prune_X0_branchPlace
set_option maxRecDepth 20000 in
theorem ggX0_prune_X0_stands : GoodIn wsX0_prune wsX0_stands := goodIn_r _ [22, 23, 44, 45, 46, 47, 48, 49, 50] (by decide +kernel) (by decide +kernel)
set_option maxRecDepth 20000 in
theorem gX0_prune_X0_stands : GoodIn wsX0_prune (wsV RX0 46 RX0 yX0_stands wsX0_stands) := goodIn_app (goodIn_of _ (by decide +kernel)) ggX0_prune_X0_stands
set_option maxRecDepth 20000 in
theorem ggX0_prune_X0_timeOfEffect : GoodIn wsX0_prune wsX0_timeOfEffect := goodIn_r _ [27, 23, 28, 29, 30, 8, 31, 32, 33, 34, 35, 36, 19, 20, 21, 22, 37, 38, 39, 40, 41, 42, 43, 44, 45, 46, 47, 48, 49, 50] (by decide +kernel) (by decide +kernel)
set_option maxRecDepth 20000 in
theorem gX0_prune_X0_timeOfEffect : GoodIn wsX0_prune (wsV RX0 64 RX0 yX0_timeOfEffect wsX0_timeOfEffect) := goodIn_app (goodIn_of _ (by decide +kernel)) ggX0_prune_X0_timeOfEffect
theorem dX0_prune_0 : decode cX0_prune 0 = .ok (.iload_n 1, 1) := by decide +kernel
theorem dX0_prune_1 : decode cX0_prune 1 = .ok (.invokestatic 42, 3) := by decide +kernel
theorem dX0_prune_4 : decode cX0_prune 4 = .ok (.ifCond .eq 10, 3) := by decide +kernel
theorem dX0_prune_7 : decode cX0_prune 7 = .ok (.iload_n 2, 1) := by decide +kernel
theorem dX0_prune_8 : decode cX0_prune 8 = .ok (.invokestatic 53, 3) := by decide +kernel
theorem dX0_prune_11 : decode cX0_prune 11 = .ok (.ifCond .ne 5, 3) := by decide +kernel
theorem dX0_prune_14 : decode cX0_prune 14 = .ok (.iconst 0, 1) := by decide +kernel
theorem dX0_prune_15 : decode cX0_prune 15 = .ok (.ireturn, 1) := by decide +kernel
theorem dX0_prune_16 : decode cX0_prune 16 = .ok (.iload_n 1, 1) := by decide +kernel
theorem dX0_prune_17 : decode cX0_prune 17 = .ok (.iload_n 2, 1) := by decide +kernel
theorem dX0_prune_18 : decode cX0_prune 18 = .ok (.invokestatic 61, 3) := by decide +kernel
theorem dX0_prune_21 : decode cX0_prune 21 = .ok (.istore_n 3, 1) := by decide +kernel
theorem dX0_prune_22 : decode cX0_prune 22 = .ok (.aload_n 0, 1) := by decide +kernel
theorem dX0_prune_23 : decode cX0_prune 23 = .ok (.aload_n 0, 1) := by decide +kernel
theorem dX0_prune_24 : decode cX0_prune 24 = .ok (.getfield 16, 3) := by decide +kernel
theorem dX0_prune_27 : decode cX0_prune 27 = .ok (.iload_n 3, 1) := by decide +kernel
theorem dX0_prune_28 : decode cX0_prune 28 = .ok (.iaload, 1) := by decide +kernel
theorem dX0_prune_29 : decode cX0_prune 29 = .ok (.invokevirtual 46, 3) := by decide +kernel
theorem dX0_prune_32 : decode cX0_prune 32 = .ok (.ifCond .ne 5, 3) := by decide +kernel
theorem dX0_prune_35 : decode cX0_prune 35 = .ok (.iconst 0, 1) := by decide +kernel
theorem dX0_prune_36 : decode cX0_prune 36 = .ok (.ireturn, 1) := by decide +kernel
theorem dX0_prune_37 : decode cX0_prune 37 = .ok (.aload_n 0, 1) := by decide +kernel
theorem dX0_prune_38 : decode cX0_prune 38 = .ok (.getfield 16, 3) := by decide +kernel
theorem dX0_prune_41 : decode cX0_prune 41 = .ok (.iload_n 3, 1) := by decide +kernel
theorem dX0_prune_42 : decode cX0_prune 42 = .ok (.aload_n 0, 1) := by decide +kernel
theorem dX0_prune_43 : decode cX0_prune 43 = .ok (.getfield 16, 3) := by decide +kernel
theorem dX0_prune_46 : decode cX0_prune 46 = .ok (.iload_n 3, 1) := by decide +kernel
theorem dX0_prune_47 : decode cX0_prune 47 = .ok (.iaload, 1) := by decide +kernel
theorem dX0_prune_48 : decode cX0_prune 48 = .ok (.aload_n 0, 1) := by decide +kernel
theorem dX0_prune_49 : decode cX0_prune 49 = .ok (.invokevirtual 64, 3) := by decide +kernel
theorem dX0_prune_52 : decode cX0_prune 52 = .ok (.invokestatic 25, 3) := by decide +kernel
theorem dX0_prune_55 : decode cX0_prune 55 = .ok (.iastore, 1) := by decide +kernel
theorem dX0_prune_56 : decode cX0_prune 56 = .ok (.iconst 1, 1) := by decide +kernel
theorem dX0_prune_57 : decode cX0_prune 57 = .ok (.ireturn, 1) := by decide +kernel
set_option maxRecDepth 20000 in
theorem ggX0_forget_J7_fill_53178 : GoodIn wsX0_forget wsJ7_fill_53178 := goodIn_r _ [9] (by decide +kernel) (by decide +kernel)
set_option maxRecDepth 20000 in
theorem gX0_forget_J7_fill_53178 : GoodIn wsX0_forget (va_wsS RX0 68 yJ7_fill_53178 wsJ7_fill_53178) := goodIn_app (goodIn_of _ (by decide +kernel)) ggX0_forget_J7_fill_53178
theorem dX0_forget_0 : decode cX0_forget 0 = .ok (.aload_n 0, 1) := by decide +kernel
theorem dX0_forget_1 : decode cX0_forget 1 = .ok (.getfield 9, 3) := by decide +kernel
theorem dX0_forget_4 : decode cX0_forget 4 = .ok (.iconst 0, 1) := by decide +kernel
theorem dX0_forget_5 : decode cX0_forget 5 = .ok (.invokestatic 68, 3) := by decide +kernel
theorem dX0_forget_8 : decode cX0_forget 8 = .ok (.aload_n 0, 1) := by decide +kernel
theorem dX0_forget_9 : decode cX0_forget 9 = .ok (.getfield 13, 3) := by decide +kernel
theorem dX0_forget_12 : decode cX0_forget 12 = .ok (.iconst 0, 1) := by decide +kernel
theorem dX0_forget_13 : decode cX0_forget 13 = .ok (.invokestatic 68, 3) := by decide +kernel
theorem dX0_forget_16 : decode cX0_forget 16 = .ok (.aload_n 0, 1) := by decide +kernel
theorem dX0_forget_17 : decode cX0_forget 17 = .ok (.getfield 16, 3) := by decide +kernel
theorem dX0_forget_20 : decode cX0_forget 20 = .ok (.iconst 0, 1) := by decide +kernel
theorem dX0_forget_21 : decode cX0_forget 21 = .ok (.invokestatic 68, 3) := by decide +kernel
theorem dX0_forget_24 : decode cX0_forget 24 = .ok (.aload_n 0, 1) := by decide +kernel
theorem dX0_forget_25 : decode cX0_forget 25 = .ok (.getfield 19, 3) := by decide +kernel
theorem dX0_forget_28 : decode cX0_forget 28 = .ok (.iconst 0, 1) := by decide +kernel
theorem dX0_forget_29 : decode cX0_forget 29 = .ok (.invokestatic 68, 3) := by decide +kernel
theorem dX0_forget_32 : decode cX0_forget 32 = .ok (.aload_n 0, 1) := by decide +kernel
theorem dX0_forget_33 : decode cX0_forget 33 = .ok (.getfield 22, 3) := by decide +kernel
theorem dX0_forget_36 : decode cX0_forget 36 = .ok (.iconst 0, 1) := by decide +kernel
theorem dX0_forget_37 : decode cX0_forget 37 = .ok (.invokestatic 68, 3) := by decide +kernel
theorem dX0_forget_40 : decode cX0_forget 40 = .ok (.return_, 1) := by decide +kernel
set_option maxRecDepth 20000 in
theorem ggX0_joined_X0_isGroup : GoodIn wsX0_joined wsX0_isGroup := goodIn_r _ [5] (by decide +kernel) (by decide +kernel)
set_option maxRecDepth 20000 in
theorem gX0_joined_X0_isGroup : GoodIn wsX0_joined (va_wsS RX0 42 yX0_isGroup wsX0_isGroup) := goodIn_app (goodIn_of _ (by decide +kernel)) ggX0_joined_X0_isGroup
set_option maxRecDepth 20000 in
theorem ggX0_joined_X0_isBranch : GoodIn wsX0_joined wsX0_isBranch := goodIn_r _ [8, 9, 10, 4, 11] (by decide +kernel) (by decide +kernel)
set_option maxRecDepth 20000 in
theorem gX0_joined_X0_isBranch : GoodIn wsX0_joined (va_wsS RX0 53 yX0_isBranch wsX0_isBranch) := goodIn_app (goodIn_of _ (by decide +kernel)) ggX0_joined_X0_isBranch
set_option maxRecDepth 20000 in
theorem ggX0_joined_X0_branchPlace : GoodIn wsX0_joined wsX0_branchPlace := goodIn_r _ [14] (by decide +kernel) (by decide +kernel)
set_option maxRecDepth 20000 in
theorem gX0_joined_X0_branchPlace : GoodIn wsX0_joined (va_wsS RX0 61 yX0_branchPlace wsX0_branchPlace) := goodIn_app (goodIn_of _ (by decide +kernel)) ggX0_joined_X0_branchPlace
set_option maxRecDepth 20000 in
theorem ggX0_joined_X0_tillOrZero : GoodIn wsX0_joined wsX0_tillOrZero := goodIn_r _ [18, 19, 20, 21, 4, 22, 23, 24, 25, 26, 27, 28, 29, 30] (by decide +kernel) (by decide +kernel)
set_option maxRecDepth 20000 in
theorem gX0_joined_X0_tillOrZero : GoodIn wsX0_joined (wsV RX0 74 RX0 yX0_tillOrZero wsX0_tillOrZero) := goodIn_app (goodIn_of _ (by decide +kernel)) ggX0_joined_X0_tillOrZero
theorem dX0_joined_0 : decode cX0_joined 0 = .ok (.iload_n 1, 1) := by decide +kernel
theorem dX0_joined_1 : decode cX0_joined 1 = .ok (.invokestatic 42, 3) := by decide +kernel
theorem dX0_joined_4 : decode cX0_joined 4 = .ok (.ifCond .eq 10, 3) := by decide +kernel
theorem dX0_joined_7 : decode cX0_joined 7 = .ok (.iload_n 2, 1) := by decide +kernel
theorem dX0_joined_8 : decode cX0_joined 8 = .ok (.invokestatic 53, 3) := by decide +kernel
theorem dX0_joined_11 : decode cX0_joined 11 = .ok (.ifCond .ne 5, 3) := by decide +kernel
theorem dX0_joined_14 : decode cX0_joined 14 = .ok (.iconst (-1), 1) := by decide +kernel
theorem dX0_joined_15 : decode cX0_joined 15 = .ok (.ireturn, 1) := by decide +kernel
theorem dX0_joined_16 : decode cX0_joined 16 = .ok (.aload_n 0, 1) := by decide +kernel
theorem dX0_joined_17 : decode cX0_joined 17 = .ok (.aload_n 0, 1) := by decide +kernel
theorem dX0_joined_18 : decode cX0_joined 18 = .ok (.getfield 16, 3) := by decide +kernel
theorem dX0_joined_21 : decode cX0_joined 21 = .ok (.iload_n 1, 1) := by decide +kernel
theorem dX0_joined_22 : decode cX0_joined 22 = .ok (.iload_n 2, 1) := by decide +kernel
theorem dX0_joined_23 : decode cX0_joined 23 = .ok (.invokestatic 61, 3) := by decide +kernel
theorem dX0_joined_26 : decode cX0_joined 26 = .ok (.iaload, 1) := by decide +kernel
theorem dX0_joined_27 : decode cX0_joined 27 = .ok (.invokevirtual 74, 3) := by decide +kernel
theorem dX0_joined_30 : decode cX0_joined 30 = .ok (.ireturn, 1) := by decide +kernel
set_option maxRecDepth 20000 in
theorem ggX0_cut_X0_isGroup : GoodIn wsX0_cut wsX0_isGroup := goodIn_r _ [6] (by decide +kernel) (by decide +kernel)
set_option maxRecDepth 20000 in
theorem gX0_cut_X0_isGroup : GoodIn wsX0_cut (va_wsS RX0 42 yX0_isGroup wsX0_isGroup) := goodIn_app (goodIn_of _ (by decide +kernel)) ggX0_cut_X0_isGroup
set_option maxRecDepth 20000 in
theorem ggX0_cut_X0_isSource : GoodIn wsX0_cut wsX0_isSource := goodIn_r _ [9] (by decide +kernel) (by decide +kernel)
set_option maxRecDepth 20000 in
theorem gX0_cut_X0_isSource : GoodIn wsX0_cut (va_wsS RX0 78 yX0_isSource wsX0_isSource) := goodIn_app (goodIn_of _ (by decide +kernel)) ggX0_cut_X0_isSource
set_option maxRecDepth 20000 in
theorem ggX0_cut_X0_isJoinedForStar : GoodIn wsX0_cut wsX0_isJoinedForStar := goodIn_r _ [13, 14, 15, 16, 5, 17, 18, 19, 20, 21, 22, 29, 30, 31, 32, 33, 34, 35] (by decide +kernel) (by decide +kernel)
set_option maxRecDepth 20000 in
theorem gX0_cut_X0_isJoinedForStar : GoodIn wsX0_cut (wsV RX0 81 RX0 yX0_isJoinedForStar wsX0_isJoinedForStar) := goodIn_app (goodIn_of _ (by decide +kernel)) ggX0_cut_X0_isJoinedForStar
set_option maxRecDepth 20000 in
theorem ggX0_cut_X0_hasBit : GoodIn wsX0_cut wsX0_hasBit := goodIn_r _ [25] (by decide +kernel) (by decide +kernel)
set_option maxRecDepth 20000 in
theorem gX0_cut_X0_hasBit : GoodIn wsX0_cut (va_wsS RX0 84 yX0_hasBit wsX0_hasBit) := goodIn_app (goodIn_of _ (by decide +kernel)) ggX0_cut_X0_hasBit
set_option maxRecDepth 20000 in
theorem ggX0_cut_X0_cutPlace : GoodIn wsX0_cut wsX0_cutPlace := goodIn_r _ [28] (by decide +kernel) (by decide +kernel)
set_option maxRecDepth 20000 in
theorem gX0_cut_X0_cutPlace : GoodIn wsX0_cut (va_wsS RX0 88 yX0_cutPlace wsX0_cutPlace) := goodIn_app (goodIn_of _ (by decide +kernel)) ggX0_cut_X0_cutPlace
theorem dX0_cut_0 : decode cX0_cut 0 = .ok (.iload_n 1, 1) := by decide +kernel
theorem dX0_cut_1 : decode cX0_cut 1 = .ok (.invokestatic 42, 3) := by decide +kernel
theorem dX0_cut_4 : decode cX0_cut 4 = .ok (.ifCond .eq 10, 3) := by decide +kernel
theorem dX0_cut_7 : decode cX0_cut 7 = .ok (.iload_n 2, 1) := by decide +kernel
theorem dX0_cut_8 : decode cX0_cut 8 = .ok (.invokestatic 78, 3) := by decide +kernel
theorem dX0_cut_11 : decode cX0_cut 11 = .ok (.ifCond .ne 5, 3) := by decide +kernel
theorem dX0_cut_14 : decode cX0_cut 14 = .ok (.iconst (-1), 1) := by decide +kernel
theorem dX0_cut_15 : decode cX0_cut 15 = .ok (.ireturn, 1) := by decide +kernel
theorem dX0_cut_16 : decode cX0_cut 16 = .ok (.aload_n 0, 1) := by decide +kernel
theorem dX0_cut_17 : decode cX0_cut 17 = .ok (.iload_n 1, 1) := by decide +kernel
theorem dX0_cut_18 : decode cX0_cut 18 = .ok (.invokevirtual 81, 3) := by decide +kernel
theorem dX0_cut_21 : decode cX0_cut 21 = .ok (.ifCond .eq 16, 3) := by decide +kernel
theorem dX0_cut_24 : decode cX0_cut 24 = .ok (.aload_n 0, 1) := by decide +kernel
theorem dX0_cut_25 : decode cX0_cut 25 = .ok (.getfield 19, 3) := by decide +kernel
theorem dX0_cut_28 : decode cX0_cut 28 = .ok (.iload_n 1, 1) := by decide +kernel
theorem dX0_cut_29 : decode cX0_cut 29 = .ok (.iaload, 1) := by decide +kernel
theorem dX0_cut_30 : decode cX0_cut 30 = .ok (.iload_n 2, 1) := by decide +kernel
theorem dX0_cut_31 : decode cX0_cut 31 = .ok (.invokestatic 84, 3) := by decide +kernel
theorem dX0_cut_34 : decode cX0_cut 34 = .ok (.ifCond .ne 5, 3) := by decide +kernel
theorem dX0_cut_37 : decode cX0_cut 37 = .ok (.iconst 0, 1) := by decide +kernel
theorem dX0_cut_38 : decode cX0_cut 38 = .ok (.ireturn, 1) := by decide +kernel
theorem dX0_cut_39 : decode cX0_cut 39 = .ok (.aload_n 0, 1) := by decide +kernel
theorem dX0_cut_40 : decode cX0_cut 40 = .ok (.getfield 22, 3) := by decide +kernel
theorem dX0_cut_43 : decode cX0_cut 43 = .ok (.iload_n 1, 1) := by decide +kernel
theorem dX0_cut_44 : decode cX0_cut 44 = .ok (.iload_n 2, 1) := by decide +kernel
theorem dX0_cut_45 : decode cX0_cut 45 = .ok (.invokestatic 88, 3) := by decide +kernel
theorem dX0_cut_48 : decode cX0_cut 48 = .ok (.iaload, 1) := by decide +kernel
theorem dX0_cut_49 : decode cX0_cut 49 = .ok (.ireturn, 1) := by decide +kernel
set_option maxRecDepth 20000 in
theorem ggX0_members_X0_isGroup : GoodIn wsX0_members wsX0_isGroup := goodIn_r _ [5] (by decide +kernel) (by decide +kernel)
set_option maxRecDepth 20000 in
theorem gX0_members_X0_isGroup : GoodIn wsX0_members (va_wsS RX0 42 yX0_isGroup wsX0_isGroup) := goodIn_app (goodIn_of _ (by decide +kernel)) ggX0_members_X0_isGroup
set_option maxRecDepth 20000 in
theorem ggX0_members_X0_tillOrZero : GoodIn wsX0_members wsX0_tillOrZero := goodIn_r _ [9, 10, 11, 12, 4, 13, 14, 15, 16, 17, 18, 19, 20, 21] (by decide +kernel) (by decide +kernel)
set_option maxRecDepth 20000 in
theorem gX0_members_X0_tillOrZero : GoodIn wsX0_members (wsV RX0 74 RX0 yX0_tillOrZero wsX0_tillOrZero) := goodIn_app (goodIn_of _ (by decide +kernel)) ggX0_members_X0_tillOrZero
theorem dX0_members_0 : decode cX0_members 0 = .ok (.iload_n 1, 1) := by decide +kernel
theorem dX0_members_1 : decode cX0_members 1 = .ok (.invokestatic 42, 3) := by decide +kernel
theorem dX0_members_4 : decode cX0_members 4 = .ok (.ifCond .ne 5, 3) := by decide +kernel
theorem dX0_members_7 : decode cX0_members 7 = .ok (.iconst (-1), 1) := by decide +kernel
theorem dX0_members_8 : decode cX0_members 8 = .ok (.ireturn, 1) := by decide +kernel
theorem dX0_members_9 : decode cX0_members 9 = .ok (.aload_n 0, 1) := by decide +kernel
theorem dX0_members_10 : decode cX0_members 10 = .ok (.aload_n 0, 1) := by decide +kernel
theorem dX0_members_11 : decode cX0_members 11 = .ok (.getfield 13, 3) := by decide +kernel
theorem dX0_members_14 : decode cX0_members 14 = .ok (.iload_n 1, 1) := by decide +kernel
theorem dX0_members_15 : decode cX0_members 15 = .ok (.iaload, 1) := by decide +kernel
theorem dX0_members_16 : decode cX0_members 16 = .ok (.invokevirtual 74, 3) := by decide +kernel
theorem dX0_members_19 : decode cX0_members 19 = .ok (.ireturn, 1) := by decide +kernel
set_option maxRecDepth 20000 in
theorem ggX0_goes_X0_isGroup : GoodIn wsX0_goes wsX0_isGroup := goodIn_r _ [4] (by decide +kernel) (by decide +kernel)
set_option maxRecDepth 20000 in
theorem gX0_goes_X0_isGroup : GoodIn wsX0_goes (va_wsS RX0 42 yX0_isGroup wsX0_isGroup) := goodIn_app (goodIn_of _ (by decide +kernel)) ggX0_goes_X0_isGroup
set_option maxRecDepth 20000 in
theorem ggX0_goes_X0_sourcesThatGo : GoodIn wsX0_goes wsX0_sourcesThatGo := goodIn_r _ [8, 9, 10, 11, 12, 13, 14, 3, 15, 16, 17, 18, 19, 20, 21, 22, 23, 24, 25, 26, 27, 28, 29, 30, 31, 32, 33, 34, 35, 36, 37, 38, 39, 40, 41, 42, 43, 44, 45, 46, 47, 48, 49, 50, 51, 52] (by decide +kernel) (by decide +kernel)
set_option maxRecDepth 20000 in
theorem gX0_goes_X0_sourcesThatGo : GoodIn wsX0_goes (wsV RX0 91 RX0 yX0_sourcesThatGo wsX0_sourcesThatGo) := goodIn_app (goodIn_of _ (by decide +kernel)) ggX0_goes_X0_sourcesThatGo
theorem dX0_goes_0 : decode cX0_goes 0 = .ok (.iload_n 1, 1) := by decide +kernel
theorem dX0_goes_1 : decode cX0_goes 1 = .ok (.invokestatic 42, 3) := by decide +kernel
theorem dX0_goes_4 : decode cX0_goes 4 = .ok (.ifCond .ne 5, 3) := by decide +kernel
theorem dX0_goes_7 : decode cX0_goes 7 = .ok (.iconst (-1), 1) := by decide +kernel
theorem dX0_goes_8 : decode cX0_goes 8 = .ok (.ireturn, 1) := by decide +kernel
theorem dX0_goes_9 : decode cX0_goes 9 = .ok (.aload_n 0, 1) := by decide +kernel
theorem dX0_goes_10 : decode cX0_goes 10 = .ok (.iload_n 1, 1) := by decide +kernel
theorem dX0_goes_11 : decode cX0_goes 11 = .ok (.invokevirtual 91, 3) := by decide +kernel
theorem dX0_goes_14 : decode cX0_goes 14 = .ok (.ireturn, 1) := by decide +kernel
set_option maxRecDepth 20000 in
theorem ggX0_look_X0_neighbourBits : GoodIn wsX0_look wsX0_neighbourBits := goodIn_r _ [7, 8, 9, 10, 11, 6, 12, 1, 69, 70, 71, 72, 73, 74, 75] (by decide +kernel) (by decide +kernel)
set_option maxRecDepth 20000 in
theorem gX0_look_X0_neighbourBits : GoodIn wsX0_look (wsV RX0 94 RX0 yX0_neighbourBits wsX0_neighbourBits) := goodIn_app (goodIn_of _ (by decide +kernel)) ggX0_look_X0_neighbourBits
set_option maxRecDepth 20000 in
theorem ggX0_look_X0_isFirst : GoodIn wsX0_look wsX0_isFirst := goodIn_r _ [16, 2, 3, 4, 5, 6, 7, 8, 9, 10, 11, 12, 1, 69, 70, 71, 72, 73, 74, 75] (by decide +kernel) (by decide +kernel)
set_option maxRecDepth 20000 in
theorem gX0_look_X0_isFirst : GoodIn wsX0_look (wsV RX0 97 RX0 yX0_isFirst wsX0_isFirst) := goodIn_app (goodIn_of _ (by decide +kernel)) ggX0_look_X0_isFirst
set_option maxRecDepth 20000 in
theorem ggX0_look_X0_oneIf : GoodIn wsX0_look wsX0_oneIf := goodIn_r _ [19] (by decide +kernel) (by decide +kernel)
set_option maxRecDepth 20000 in
theorem gX0_look_X0_oneIf : GoodIn wsX0_look (va_wsS RX0 100 yX0_oneIf wsX0_oneIf) := goodIn_app (goodIn_of _ (by decide +kernel)) ggX0_look_X0_oneIf
set_option maxRecDepth 20000 in
theorem ggX0_look_X0_isAsking : GoodIn wsX0_look wsX0_isAsking := goodIn_r _ [23, 2, 3, 4, 5, 6, 7, 8, 9, 10, 11, 12, 1, 69, 70, 71, 72, 73, 74, 75] (by decide +kernel) (by decide +kernel)
set_option maxRecDepth 20000 in
theorem gX0_look_X0_isAsking : GoodIn wsX0_look (wsV RX0 49 RX0 yX0_isAsking wsX0_isAsking) := goodIn_app (goodIn_of _ (by decide +kernel)) ggX0_look_X0_isAsking
set_option maxRecDepth 20000 in
theorem ggX0_look_X0_isCrowded : GoodIn wsX0_look wsX0_isCrowded := goodIn_r _ [27, 3, 4, 5, 6, 7, 8, 9, 10, 11, 12, 1, 28, 29, 30, 31, 32, 33, 34, 69, 70, 71, 72, 73, 74, 75] (by decide +kernel) (by decide +kernel)
set_option maxRecDepth 20000 in
theorem gX0_look_X0_isCrowded : GoodIn wsX0_look (wsV RX0 104 RX0 yX0_isCrowded wsX0_isCrowded) := goodIn_app (goodIn_of _ (by decide +kernel)) ggX0_look_X0_isCrowded
set_option maxRecDepth 20000 in
theorem ggX0_look_X0_groupsThatGo : GoodIn wsX0_look wsX0_groupsThatGo := goodIn_r _ [38, 39, 40, 41, 6, 42, 43, 44, 45, 9, 10, 11, 12, 1, 13, 14, 15, 16, 2, 3, 4, 5, 7, 8, 46, 47, 48, 49, 50, 51, 52, 53, 54, 55, 56, 57, 58, 59, 60, 61, 62, 63, 64, 69, 70, 71, 72, 73, 74, 75] (by decide +kernel) (by decide +kernel)
set_option maxRecDepth 20000 in
theorem gX0_look_X0_groupsThatGo : GoodIn wsX0_look (wsV RX0 107 RX0 yX0_groupsThatGo wsX0_groupsThatGo) := goodIn_app (goodIn_of _ (by decide +kernel)) ggX0_look_X0_groupsThatGo
set_option maxRecDepth 20000 in
theorem ggX0_look_X0_countJoined : GoodIn wsX0_look wsX0_countJoined := goodIn_r _ [68, 45, 9, 10, 11, 6, 12, 1, 69, 70, 71, 72, 73, 74, 75] (by decide +kernel) (by decide +kernel)
set_option maxRecDepth 20000 in
theorem gX0_look_X0_countJoined : GoodIn wsX0_look (wsV RX0 110 RX0 yX0_countJoined wsX0_countJoined) := goodIn_app (goodIn_of _ (by decide +kernel)) ggX0_look_X0_countJoined
theorem dX0_look_0 : decode cX0_look 0 = .ok (.iload_n 1, 1) := by decide +kernel
theorem dX0_look_1 : decode cX0_look 1 = .ok (.tableswitch 96 0 7 #[47, 52, 57, 65, 73, 81, 86, 91], 47) := by decide +kernel
theorem dX0_look_48 : decode cX0_look 48 = .ok (.aload_n 0, 1) := by decide +kernel
theorem dX0_look_49 : decode cX0_look 49 = .ok (.getfield 38, 3) := by decide +kernel
theorem dX0_look_52 : decode cX0_look 52 = .ok (.ireturn, 1) := by decide +kernel
theorem dX0_look_53 : decode cX0_look 53 = .ok (.aload_n 0, 1) := by decide +kernel
theorem dX0_look_54 : decode cX0_look 54 = .ok (.invokevirtual 94, 3) := by decide +kernel
theorem dX0_look_57 : decode cX0_look 57 = .ok (.ireturn, 1) := by decide +kernel
theorem dX0_look_58 : decode cX0_look 58 = .ok (.aload_n 0, 1) := by decide +kernel
theorem dX0_look_59 : decode cX0_look 59 = .ok (.invokevirtual 97, 3) := by decide +kernel
theorem dX0_look_62 : decode cX0_look 62 = .ok (.invokestatic 100, 3) := by decide +kernel
theorem dX0_look_65 : decode cX0_look 65 = .ok (.ireturn, 1) := by decide +kernel
theorem dX0_look_66 : decode cX0_look 66 = .ok (.aload_n 0, 1) := by decide +kernel
theorem dX0_look_67 : decode cX0_look 67 = .ok (.invokevirtual 49, 3) := by decide +kernel
theorem dX0_look_70 : decode cX0_look 70 = .ok (.invokestatic 100, 3) := by decide +kernel
theorem dX0_look_73 : decode cX0_look 73 = .ok (.ireturn, 1) := by decide +kernel
theorem dX0_look_74 : decode cX0_look 74 = .ok (.aload_n 0, 1) := by decide +kernel
theorem dX0_look_75 : decode cX0_look 75 = .ok (.invokevirtual 104, 3) := by decide +kernel
theorem dX0_look_78 : decode cX0_look 78 = .ok (.invokestatic 100, 3) := by decide +kernel
theorem dX0_look_81 : decode cX0_look 81 = .ok (.ireturn, 1) := by decide +kernel
theorem dX0_look_82 : decode cX0_look 82 = .ok (.aload_n 0, 1) := by decide +kernel
theorem dX0_look_83 : decode cX0_look 83 = .ok (.getfield 34, 3) := by decide +kernel
theorem dX0_look_86 : decode cX0_look 86 = .ok (.ireturn, 1) := by decide +kernel
theorem dX0_look_87 : decode cX0_look 87 = .ok (.aload_n 0, 1) := by decide +kernel
theorem dX0_look_88 : decode cX0_look 88 = .ok (.invokevirtual 107, 3) := by decide +kernel
theorem dX0_look_91 : decode cX0_look 91 = .ok (.ireturn, 1) := by decide +kernel
theorem dX0_look_92 : decode cX0_look 92 = .ok (.aload_n 0, 1) := by decide +kernel
theorem dX0_look_93 : decode cX0_look 93 = .ok (.invokevirtual 110, 3) := by decide +kernel
theorem dX0_look_96 : decode cX0_look 96 = .ok (.ireturn, 1) := by decide +kernel
theorem dX0_look_97 : decode cX0_look 97 = .ok (.iconst (-1), 1) := by decide +kernel
theorem dX0_look_98 : decode cX0_look 98 = .ok (.ireturn, 1) := by decide +kernel
theorem dX0_isGroup_0 : decode cX0_isGroup 0 = .ok (.iload_n 0, 1) := by decide +kernel
theorem dX0_isGroup_1 : decode cX0_isGroup 1 = .ok (.ifCond .lt 13, 3) := by decide +kernel
theorem dX0_isGroup_4 : decode cX0_isGroup 4 = .ok (.iload_n 0, 1) := by decide +kernel
theorem dX0_isGroup_5 : decode cX0_isGroup 5 = .ok (.bipush 8, 2) := by decide +kernel
theorem dX0_isGroup_7 : decode cX0_isGroup 7 = .ok (.if_icmp .ge 7, 3) := by decide +kernel
theorem dX0_isGroup_10 : decode cX0_isGroup 10 = .ok (.iconst 1, 1) := by decide +kernel
theorem dX0_isGroup_11 : decode cX0_isGroup 11 = .ok (.goto 4, 3) := by decide +kernel
theorem dX0_isGroup_14 : decode cX0_isGroup 14 = .ok (.iconst 0, 1) := by decide +kernel
theorem dX0_isGroup_15 : decode cX0_isGroup 15 = .ok (.ireturn, 1) := by decide +kernel
theorem dX0_isSource_0 : decode cX0_isSource 0 = .ok (.iload_n 0, 1) := by decide +kernel
theorem dX0_isSource_1 : decode cX0_isSource 1 = .ok (.ifCond .lt 13, 3) := by decide +kernel
theorem dX0_isSource_4 : decode cX0_isSource 4 = .ok (.iload_n 0, 1) := by decide +kernel
theorem dX0_isSource_5 : decode cX0_isSource 5 = .ok (.bipush 16, 2) := by decide +kernel
theorem dX0_isSource_7 : decode cX0_isSource 7 = .ok (.if_icmp .ge 7, 3) := by decide +kernel
theorem dX0_isSource_10 : decode cX0_isSource 10 = .ok (.iconst 1, 1) := by decide +kernel
theorem dX0_isSource_11 : decode cX0_isSource 11 = .ok (.goto 4, 3) := by decide +kernel
theorem dX0_isSource_14 : decode cX0_isSource 14 = .ok (.iconst 0, 1) := by decide +kernel
theorem dX0_isSource_15 : decode cX0_isSource 15 = .ok (.ireturn, 1) := by decide +kernel
set_option maxRecDepth 20000 in
theorem ggX0_isBranch_X0_isSource : GoodIn wsX0_isBranch wsX0_isSource := goodIn_r _ [4] (by decide +kernel) (by decide +kernel)
set_option maxRecDepth 20000 in
theorem gX0_isBranch_X0_isSource : GoodIn wsX0_isBranch (va_wsS RX0 78 yX0_isSource wsX0_isSource) := goodIn_app (goodIn_of _ (by decide +kernel)) ggX0_isBranch_X0_isSource
theorem dX0_isBranch_0 : decode cX0_isBranch 0 = .ok (.iload_n 0, 1) := by decide +kernel
theorem dX0_isBranch_1 : decode cX0_isBranch 1 = .ok (.iconst (-1), 1) := by decide +kernel
theorem dX0_isBranch_2 : decode cX0_isBranch 2 = .ok (.if_icmp .eq 10, 3) := by decide +kernel
theorem dX0_isBranch_5 : decode cX0_isBranch 5 = .ok (.iload_n 0, 1) := by decide +kernel
theorem dX0_isBranch_6 : decode cX0_isBranch 6 = .ok (.invokestatic 78, 3) := by decide +kernel
theorem dX0_isBranch_9 : decode cX0_isBranch 9 = .ok (.ifCond .eq 7, 3) := by decide +kernel
theorem dX0_isBranch_12 : decode cX0_isBranch 12 = .ok (.iconst 1, 1) := by decide +kernel
theorem dX0_isBranch_13 : decode cX0_isBranch 13 = .ok (.goto 4, 3) := by decide +kernel
theorem dX0_isBranch_16 : decode cX0_isBranch 16 = .ok (.iconst 0, 1) := by decide +kernel
theorem dX0_isBranch_17 : decode cX0_isBranch 17 = .ok (.ireturn, 1) := by decide +kernel
theorem dX0_branchPlace_0 : decode cX0_branchPlace 0 = .ok (.iload_n 0, 1) := by decide +kernel
theorem dX0_branchPlace_1 : decode cX0_branchPlace 1 = .ok (.bipush 17, 2) := by decide +kernel
theorem dX0_branchPlace_3 : decode cX0_branchPlace 3 = .ok (.imul, 1) := by decide +kernel
theorem dX0_branchPlace_4 : decode cX0_branchPlace 4 = .ok (.iload_n 1, 1) := by decide +kernel
theorem dX0_branchPlace_5 : decode cX0_branchPlace 5 = .ok (.iconst (-1), 1) := by decide +kernel
theorem dX0_branchPlace_6 : decode cX0_branchPlace 6 = .ok (.if_icmp .ne 8, 3) := by decide +kernel
theorem dX0_branchPlace_9 : decode cX0_branchPlace 9 = .ok (.bipush 16, 2) := by decide +kernel
theorem dX0_branchPlace_11 : decode cX0_branchPlace 11 = .ok (.goto 4, 3) := by decide +kernel
theorem dX0_branchPlace_14 : decode cX0_branchPlace 14 = .ok (.iload_n 1, 1) := by decide +kernel
theorem dX0_branchPlace_15 : decode cX0_branchPlace 15 = .ok (.iadd, 1) := by decide +kernel
theorem dX0_branchPlace_16 : decode cX0_branchPlace 16 = .ok (.ireturn, 1) := by decide +kernel
theorem dX0_cutPlace_0 : decode cX0_cutPlace 0 = .ok (.iload_n 0, 1) := by decide +kernel
theorem dX0_cutPlace_1 : decode cX0_cutPlace 1 = .ok (.bipush 16, 2) := by decide +kernel
theorem dX0_cutPlace_3 : decode cX0_cutPlace 3 = .ok (.imul, 1) := by decide +kernel
theorem dX0_cutPlace_4 : decode cX0_cutPlace 4 = .ok (.iload_n 1, 1) := by decide +kernel
theorem dX0_cutPlace_5 : decode cX0_cutPlace 5 = .ok (.iadd, 1) := by decide +kernel
theorem dX0_cutPlace_6 : decode cX0_cutPlace 6 = .ok (.ireturn, 1) := by decide +kernel
theorem dX0_hasBit_0 : decode cX0_hasBit 0 = .ok (.iload_n 0, 1) := by decide +kernel
theorem dX0_hasBit_1 : decode cX0_hasBit 1 = .ok (.iload_n 1, 1) := by decide +kernel
theorem dX0_hasBit_2 : decode cX0_hasBit 2 = .ok (.ishr, 1) := by decide +kernel
theorem dX0_hasBit_3 : decode cX0_hasBit 3 = .ok (.iconst 1, 1) := by decide +kernel
theorem dX0_hasBit_4 : decode cX0_hasBit 4 = .ok (.iand, 1) := by decide +kernel
theorem dX0_hasBit_5 : decode cX0_hasBit 5 = .ok (.ifCond .eq 7, 3) := by decide +kernel
theorem dX0_hasBit_8 : decode cX0_hasBit 8 = .ok (.iconst 1, 1) := by decide +kernel
theorem dX0_hasBit_9 : decode cX0_hasBit 9 = .ok (.goto 4, 3) := by decide +kernel
theorem dX0_hasBit_12 : decode cX0_hasBit 12 = .ok (.iconst 0, 1) := by decide +kernel
theorem dX0_hasBit_13 : decode cX0_hasBit 13 = .ok (.ireturn, 1) := by decide +kernel
theorem dX0_oneIf_0 : decode cX0_oneIf 0 = .ok (.iload_n 0, 1) := by decide +kernel
theorem dX0_oneIf_1 : decode cX0_oneIf 1 = .ok (.ifCond .eq 7, 3) := by decide +kernel
theorem dX0_oneIf_4 : decode cX0_oneIf 4 = .ok (.iconst 1, 1) := by decide +kernel
theorem dX0_oneIf_5 : decode cX0_oneIf 5 = .ok (.goto 4, 3) := by decide +kernel
theorem dX0_oneIf_8 : decode cX0_oneIf 8 = .ok (.iconst 0, 1) := by decide +kernel
theorem dX0_oneIf_9 : decode cX0_oneIf 9 = .ok (.ireturn, 1) := by decide +kernel
theorem dX0_stands_0 : decode cX0_stands 0 = .ok (.aload_n 0, 1) := by decide +kernel
theorem dX0_stands_1 : decode cX0_stands 1 = .ok (.getfield 38, 3) := by decide +kernel
theorem dX0_stands_4 : decode cX0_stands 4 = .ok (.iload_n 1, 1) := by decide +kernel
theorem dX0_stands_5 : decode cX0_stands 5 = .ok (.if_icmp .ge 7, 3) := by decide +kernel
theorem dX0_stands_8 : decode cX0_stands 8 = .ok (.iconst 1, 1) := by decide +kernel
theorem dX0_stands_9 : decode cX0_stands 9 = .ok (.goto 4, 3) := by decide +kernel
theorem dX0_stands_12 : decode cX0_stands 12 = .ok (.iconst 0, 1) := by decide +kernel
theorem dX0_stands_13 : decode cX0_stands 13 = .ok (.ireturn, 1) := by decide +kernel
set_option maxRecDepth 20000 in
theorem ggX0_tillOrZero_X0_stands : GoodIn wsX0_tillOrZero wsX0_stands := goodIn_r _ [5, 6, 7, 8, 9, 10, 11, 12, 13] (by decide +kernel) (by decide +kernel)
set_option maxRecDepth 20000 in
theorem gX0_tillOrZero_X0_stands : GoodIn wsX0_tillOrZero (wsV RX0 46 RX0 yX0_stands wsX0_stands) := goodIn_app (goodIn_of _ (by decide +kernel)) ggX0_tillOrZero_X0_stands
theorem dX0_tillOrZero_0 : decode cX0_tillOrZero 0 = .ok (.aload_n 0, 1) := by decide +kernel
theorem dX0_tillOrZero_1 : decode cX0_tillOrZero 1 = .ok (.iload_n 1, 1) := by decide +kernel
theorem dX0_tillOrZero_2 : decode cX0_tillOrZero 2 = .ok (.invokevirtual 46, 3) := by decide +kernel
theorem dX0_tillOrZero_5 : decode cX0_tillOrZero 5 = .ok (.ifCond .eq 7, 3) := by decide +kernel
theorem dX0_tillOrZero_8 : decode cX0_tillOrZero 8 = .ok (.iload_n 1, 1) := by decide +kernel
theorem dX0_tillOrZero_9 : decode cX0_tillOrZero 9 = .ok (.goto 4, 3) := by decide +kernel
theorem dX0_tillOrZero_12 : decode cX0_tillOrZero 12 = .ok (.iconst 0, 1) := by decide +kernel
theorem dX0_tillOrZero_13 : decode cX0_tillOrZero 13 = .ok (.ireturn, 1) := by decide +kernel
set_option maxRecDepth 20000 in
theorem ggX0_neighbourBits_X0_stands : GoodIn wsX0_neighbourBits wsX0_stands := goodIn_r _ [6, 7, 8, 9, 10, 11, 12, 13, 14] (by decide +kernel) (by decide +kernel)
set_option maxRecDepth 20000 in
theorem gX0_neighbourBits_X0_stands : GoodIn wsX0_neighbourBits (wsV RX0 46 RX0 yX0_stands wsX0_stands) := goodIn_app (goodIn_of _ (by decide +kernel)) ggX0_neighbourBits_X0_stands
theorem dX0_neighbourBits_0 : decode cX0_neighbourBits 0 = .ok (.iconst 0, 1) := by decide +kernel
theorem dX0_neighbourBits_1 : decode cX0_neighbourBits 1 = .ok (.istore_n 1, 1) := by decide +kernel
theorem dX0_neighbourBits_2 : decode cX0_neighbourBits 2 = .ok (.iconst 0, 1) := by decide +kernel
theorem dX0_neighbourBits_3 : decode cX0_neighbourBits 3 = .ok (.istore_n 2, 1) := by decide +kernel
theorem dX0_neighbourBits_4 : decode cX0_neighbourBits 4 = .ok (.iload_n 2, 1) := by decide +kernel
theorem dX0_neighbourBits_5 : decode cX0_neighbourBits 5 = .ok (.bipush 10, 2) := by decide +kernel
theorem dX0_neighbourBits_7 : decode cX0_neighbourBits 7 = .ok (.if_icmp .ge 28, 3) := by decide +kernel
theorem dX0_neighbourBits_10 : decode cX0_neighbourBits 10 = .ok (.aload_n 0, 1) := by decide +kernel
theorem dX0_neighbourBits_11 : decode cX0_neighbourBits 11 = .ok (.aload_n 0, 1) := by decide +kernel
theorem dX0_neighbourBits_12 : decode cX0_neighbourBits 12 = .ok (.getfield 9, 3) := by decide +kernel
theorem dX0_neighbourBits_15 : decode cX0_neighbourBits 15 = .ok (.iload_n 2, 1) := by decide +kernel
theorem dX0_neighbourBits_16 : decode cX0_neighbourBits 16 = .ok (.iaload, 1) := by decide +kernel
theorem dX0_neighbourBits_17 : decode cX0_neighbourBits 17 = .ok (.invokevirtual 46, 3) := by decide +kernel
theorem dX0_neighbourBits_20 : decode cX0_neighbourBits 20 = .ok (.ifCond .eq 9, 3) := by decide +kernel
theorem dX0_neighbourBits_23 : decode cX0_neighbourBits 23 = .ok (.iload_n 1, 1) := by decide +kernel
theorem dX0_neighbourBits_24 : decode cX0_neighbourBits 24 = .ok (.iconst 1, 1) := by decide +kernel
theorem dX0_neighbourBits_25 : decode cX0_neighbourBits 25 = .ok (.iload_n 2, 1) := by decide +kernel
theorem dX0_neighbourBits_26 : decode cX0_neighbourBits 26 = .ok (.ishl, 1) := by decide +kernel
theorem dX0_neighbourBits_27 : decode cX0_neighbourBits 27 = .ok (.ior, 1) := by decide +kernel
theorem dX0_neighbourBits_28 : decode cX0_neighbourBits 28 = .ok (.istore_n 1, 1) := by decide +kernel
theorem dX0_neighbourBits_29 : decode cX0_neighbourBits 29 = .ok (.iinc 2 1, 3) := by decide +kernel
theorem dX0_neighbourBits_32 : decode cX0_neighbourBits 32 = .ok (.goto (-28), 3) := by decide +kernel
theorem dX0_neighbourBits_35 : decode cX0_neighbourBits 35 = .ok (.iload_n 1, 1) := by decide +kernel
theorem dX0_neighbourBits_36 : decode cX0_neighbourBits 36 = .ok (.ireturn, 1) := by decide +kernel
set_option maxRecDepth 20000 in
theorem ggX0_isFirst_X0_neighbourBits : GoodIn wsX0_isFirst wsX0_neighbourBits := goodIn_r _ [6, 7, 8, 9, 10, 5, 11, 12, 13, 14, 15, 16, 17, 18, 19] (by decide +kernel) (by decide +kernel)
set_option maxRecDepth 20000 in
theorem gX0_isFirst_X0_neighbourBits : GoodIn wsX0_isFirst (wsV RX0 94 RX0 yX0_neighbourBits wsX0_neighbourBits) := goodIn_app (goodIn_of _ (by decide +kernel)) ggX0_isFirst_X0_neighbourBits
theorem dX0_isFirst_0 : decode cX0_isFirst 0 = .ok (.aload_n 0, 1) := by decide +kernel
theorem dX0_isFirst_1 : decode cX0_isFirst 1 = .ok (.invokevirtual 94, 3) := by decide +kernel
theorem dX0_isFirst_4 : decode cX0_isFirst 4 = .ok (.aload_n 0, 1) := by decide +kernel
theorem dX0_isFirst_5 : decode cX0_isFirst 5 = .ok (.getfield 34, 3) := by decide +kernel
theorem dX0_isFirst_8 : decode cX0_isFirst 8 = .ok (.iconst 1, 1) := by decide +kernel
theorem dX0_isFirst_9 : decode cX0_isFirst 9 = .ok (.iadd, 1) := by decide +kernel
theorem dX0_isFirst_10 : decode cX0_isFirst 10 = .ok (.ishr, 1) := by decide +kernel
theorem dX0_isFirst_11 : decode cX0_isFirst 11 = .ok (.ifCond .ne 7, 3) := by decide +kernel
theorem dX0_isFirst_14 : decode cX0_isFirst 14 = .ok (.iconst 1, 1) := by decide +kernel
theorem dX0_isFirst_15 : decode cX0_isFirst 15 = .ok (.goto 4, 3) := by decide +kernel
theorem dX0_isFirst_18 : decode cX0_isFirst 18 = .ok (.iconst 0, 1) := by decide +kernel
theorem dX0_isFirst_19 : decode cX0_isFirst 19 = .ok (.ireturn, 1) := by decide +kernel
set_option maxRecDepth 20000 in
theorem ggX0_isAsking_X0_neighbourBits : GoodIn wsX0_isAsking wsX0_neighbourBits := goodIn_r _ [6, 7, 8, 9, 10, 5, 11, 12, 13, 14, 15, 16, 17, 18, 19] (by decide +kernel) (by decide +kernel)
set_option maxRecDepth 20000 in
theorem gX0_isAsking_X0_neighbourBits : GoodIn wsX0_isAsking (wsV RX0 94 RX0 yX0_neighbourBits wsX0_neighbourBits) := goodIn_app (goodIn_of _ (by decide +kernel)) ggX0_isAsking_X0_neighbourBits
theorem dX0_isAsking_0 : decode cX0_isAsking 0 = .ok (.iconst 1, 1) := by decide +kernel
theorem dX0_isAsking_1 : decode cX0_isAsking 1 = .ok (.aload_n 0, 1) := by decide +kernel
theorem dX0_isAsking_2 : decode cX0_isAsking 2 = .ok (.getfield 34, 3) := by decide +kernel
theorem dX0_isAsking_5 : decode cX0_isAsking 5 = .ok (.ishl, 1) := by decide +kernel
theorem dX0_isAsking_6 : decode cX0_isAsking 6 = .ok (.iconst 1, 1) := by decide +kernel
theorem dX0_isAsking_7 : decode cX0_isAsking 7 = .ok (.isub, 1) := by decide +kernel
theorem dX0_isAsking_8 : decode cX0_isAsking 8 = .ok (.istore_n 1, 1) := by decide +kernel
theorem dX0_isAsking_9 : decode cX0_isAsking 9 = .ok (.aload_n 0, 1) := by decide +kernel
theorem dX0_isAsking_10 : decode cX0_isAsking 10 = .ok (.invokevirtual 94, 3) := by decide +kernel
theorem dX0_isAsking_13 : decode cX0_isAsking 13 = .ok (.iload_n 1, 1) := by decide +kernel
theorem dX0_isAsking_14 : decode cX0_isAsking 14 = .ok (.iand, 1) := by decide +kernel
theorem dX0_isAsking_15 : decode cX0_isAsking 15 = .ok (.ifCond .ne 7, 3) := by decide +kernel
theorem dX0_isAsking_18 : decode cX0_isAsking 18 = .ok (.iconst 1, 1) := by decide +kernel
theorem dX0_isAsking_19 : decode cX0_isAsking 19 = .ok (.goto 4, 3) := by decide +kernel
theorem dX0_isAsking_22 : decode cX0_isAsking 22 = .ok (.iconst 0, 1) := by decide +kernel
theorem dX0_isAsking_23 : decode cX0_isAsking 23 = .ok (.ireturn, 1) := by decide +kernel
set_option maxRecDepth 20000 in
theorem ggX0_isCrowded_X0_neighbourBits : GoodIn wsX0_isCrowded wsX0_neighbourBits := goodIn_r _ [5, 6, 7, 8, 9, 4, 10, 11, 19, 20, 21, 22, 23, 24, 25] (by decide +kernel) (by decide +kernel)
set_option maxRecDepth 20000 in
theorem gX0_isCrowded_X0_neighbourBits : GoodIn wsX0_isCrowded (wsV RX0 94 RX0 yX0_neighbourBits wsX0_neighbourBits) := goodIn_app (goodIn_of _ (by decide +kernel)) ggX0_isCrowded_X0_neighbourBits
set_option maxRecDepth 20000 in
theorem ggX0_isCrowded_J6_bitCount_0f7a4 : GoodIn wsX0_isCrowded wsJ6_bitCount_0f7a4 := goodIn_r _ [15, 16, 17, 18] (by decide +kernel) (by decide +kernel)
set_option maxRecDepth 20000 in
theorem gX0_isCrowded_J6_bitCount_0f7a4 : GoodIn wsX0_isCrowded (va_wsS RX0 113 yJ6_bitCount_0f7a4 wsJ6_bitCount_0f7a4) := goodIn_app (goodIn_of _ (by decide +kernel)) ggX0_isCrowded_J6_bitCount_0f7a4
theorem dX0_isCrowded_0 : decode cX0_isCrowded 0 = .ok (.aload_n 0, 1) := by decide +kernel
theorem dX0_isCrowded_1 : decode cX0_isCrowded 1 = .ok (.invokevirtual 94, 3) := by decide +kernel
theorem dX0_isCrowded_4 : decode cX0_isCrowded 4 = .ok (.invokestatic 113, 3) := by decide +kernel
theorem dX0_isCrowded_7 : decode cX0_isCrowded 7 = .ok (.iconst 2, 1) := by decide +kernel
theorem dX0_isCrowded_8 : decode cX0_isCrowded 8 = .ok (.if_icmp .lt 7, 3) := by decide +kernel
theorem dX0_isCrowded_11 : decode cX0_isCrowded 11 = .ok (.iconst 1, 1) := by decide +kernel
theorem dX0_isCrowded_12 : decode cX0_isCrowded 12 = .ok (.goto 4, 3) := by decide +kernel
theorem dX0_isCrowded_15 : decode cX0_isCrowded 15 = .ok (.iconst 0, 1) := by decide +kernel
theorem dX0_isCrowded_16 : decode cX0_isCrowded 16 = .ok (.ireturn, 1) := by decide +kernel
set_option maxRecDepth 20000 in
theorem ggX0_timeOfEffect_X0_isCrowded : GoodIn wsX0_timeOfEffect wsX0_isCrowded := goodIn_r _ [6, 7, 8, 9, 5, 10, 11, 12, 13, 14, 15, 1, 16, 17, 18, 19, 20, 21, 22, 23, 24, 25, 26, 27, 28, 29] (by decide +kernel) (by decide +kernel)
set_option maxRecDepth 20000 in
theorem gX0_timeOfEffect_X0_isCrowded : GoodIn wsX0_timeOfEffect (wsV RX0 104 RX0 yX0_isCrowded wsX0_isCrowded) := goodIn_app (goodIn_of _ (by decide +kernel)) ggX0_timeOfEffect_X0_isCrowded
theorem dX0_timeOfEffect_0 : decode cX0_timeOfEffect 0 = .ok (.aload_n 0, 1) := by decide +kernel
theorem dX0_timeOfEffect_1 : decode cX0_timeOfEffect 1 = .ok (.invokevirtual 104, 3) := by decide +kernel
theorem dX0_timeOfEffect_4 : decode cX0_timeOfEffect 4 = .ok (.ifCond .eq 12, 3) := by decide +kernel
theorem dX0_timeOfEffect_7 : decode cX0_timeOfEffect 7 = .ok (.aload_n 0, 1) := by decide +kernel
theorem dX0_timeOfEffect_8 : decode cX0_timeOfEffect 8 = .ok (.getfield 38, 3) := by decide +kernel
theorem dX0_timeOfEffect_11 : decode cX0_timeOfEffect 11 = .ok (.iconst 3, 1) := by decide +kernel
theorem dX0_timeOfEffect_12 : decode cX0_timeOfEffect 12 = .ok (.iadd, 1) := by decide +kernel
theorem dX0_timeOfEffect_13 : decode cX0_timeOfEffect 13 = .ok (.goto 7, 3) := by decide +kernel
theorem dX0_timeOfEffect_16 : decode cX0_timeOfEffect 16 = .ok (.aload_n 0, 1) := by decide +kernel
theorem dX0_timeOfEffect_17 : decode cX0_timeOfEffect 17 = .ok (.getfield 38, 3) := by decide +kernel
theorem dX0_timeOfEffect_20 : decode cX0_timeOfEffect 20 = .ok (.ireturn, 1) := by decide +kernel
set_option maxRecDepth 20000 in
theorem ggX0_isJoinedForStar_X0_branchPlace : GoodIn wsX0_isJoinedForStar wsX0_branchPlace := goodIn_r _ [5] (by decide +kernel) (by decide +kernel)
set_option maxRecDepth 20000 in
theorem gX0_isJoinedForStar_X0_branchPlace : GoodIn wsX0_isJoinedForStar (va_wsS RX0 61 yX0_branchPlace wsX0_branchPlace) := goodIn_app (goodIn_of _ (by decide +kernel)) ggX0_isJoinedForStar_X0_branchPlace
set_option maxRecDepth 20000 in
theorem ggX0_isJoinedForStar_X0_stands : GoodIn wsX0_isJoinedForStar wsX0_stands := goodIn_r _ [9, 10, 11, 12, 13, 14, 15, 16, 17] (by decide +kernel) (by decide +kernel)
set_option maxRecDepth 20000 in
theorem gX0_isJoinedForStar_X0_stands : GoodIn wsX0_isJoinedForStar (wsV RX0 46 RX0 yX0_stands wsX0_stands) := goodIn_app (goodIn_of _ (by decide +kernel)) ggX0_isJoinedForStar_X0_stands
theorem dX0_isJoinedForStar_0 : decode cX0_isJoinedForStar 0 = .ok (.aload_n 0, 1) := by decide +kernel
theorem dX0_isJoinedForStar_1 : decode cX0_isJoinedForStar 1 = .ok (.aload_n 0, 1) := by decide +kernel
theorem dX0_isJoinedForStar_2 : decode cX0_isJoinedForStar 2 = .ok (.getfield 16, 3) := by decide +kernel
theorem dX0_isJoinedForStar_5 : decode cX0_isJoinedForStar 5 = .ok (.iload_n 1, 1) := by decide +kernel
theorem dX0_isJoinedForStar_6 : decode cX0_isJoinedForStar 6 = .ok (.iconst (-1), 1) := by decide +kernel
theorem dX0_isJoinedForStar_7 : decode cX0_isJoinedForStar 7 = .ok (.invokestatic 61, 3) := by decide +kernel
theorem dX0_isJoinedForStar_10 : decode cX0_isJoinedForStar 10 = .ok (.iaload, 1) := by decide +kernel
theorem dX0_isJoinedForStar_11 : decode cX0_isJoinedForStar 11 = .ok (.invokevirtual 46, 3) := by decide +kernel
theorem dX0_isJoinedForStar_14 : decode cX0_isJoinedForStar 14 = .ok (.ireturn, 1) := by decide +kernel
set_option maxRecDepth 20000 in
theorem ggX0_tellCuts_X0_isJoinedForStar : GoodIn wsX0_tellCuts wsX0_isJoinedForStar := goodIn_r _ [7, 8, 9, 10, 6, 11, 12, 13, 14, 15, 16, 43, 44, 45, 46, 47, 48, 49] (by decide +kernel) (by decide +kernel)
set_option maxRecDepth 20000 in
theorem gX0_tellCuts_X0_isJoinedForStar : GoodIn wsX0_tellCuts (wsV RX0 81 RX0 yX0_isJoinedForStar wsX0_isJoinedForStar) := goodIn_app (goodIn_of _ (by decide +kernel)) ggX0_tellCuts_X0_isJoinedForStar
set_option maxRecDepth 20000 in
theorem ggX0_tellCuts_X0_timeOfEffect : GoodIn wsX0_tellCuts wsX0_timeOfEffect := goodIn_r _ [20, 16, 21, 22, 23, 6, 24, 25, 26, 27, 28, 29, 12, 13, 14, 15, 30, 31, 32, 33, 34, 35, 36, 43, 44, 45, 46, 47, 48, 49] (by decide +kernel) (by decide +kernel)
set_option maxRecDepth 20000 in
theorem gX0_tellCuts_X0_timeOfEffect : GoodIn wsX0_tellCuts (wsV RX0 64 RX0 yX0_timeOfEffect wsX0_timeOfEffect) := goodIn_app (goodIn_of _ (by decide +kernel)) ggX0_tellCuts_X0_timeOfEffect
set_option maxRecDepth 20000 in
theorem ggX0_tellCuts_X0_hasBit : GoodIn wsX0_tellCuts wsX0_hasBit := goodIn_r _ [39] (by decide +kernel) (by decide +kernel)
set_option maxRecDepth 20000 in
theorem gX0_tellCuts_X0_hasBit : GoodIn wsX0_tellCuts (va_wsS RX0 84 yX0_hasBit wsX0_hasBit) := goodIn_app (goodIn_of _ (by decide +kernel)) ggX0_tellCuts_X0_hasBit
set_option maxRecDepth 20000 in
theorem ggX0_tellCuts_X0_cutPlace : GoodIn wsX0_tellCuts wsX0_cutPlace := goodIn_r _ [42] (by decide +kernel) (by decide +kernel)
set_option maxRecDepth 20000 in
theorem gX0_tellCuts_X0_cutPlace : GoodIn wsX0_tellCuts (va_wsS RX0 88 yX0_cutPlace wsX0_cutPlace) := goodIn_app (goodIn_of _ (by decide +kernel)) ggX0_tellCuts_X0_cutPlace
theorem dX0_tellCuts_0 : decode cX0_tellCuts 0 = .ok (.aload_n 0, 1) := by decide +kernel
theorem dX0_tellCuts_1 : decode cX0_tellCuts 1 = .ok (.iload_n 1, 1) := by decide +kernel
theorem dX0_tellCuts_2 : decode cX0_tellCuts 2 = .ok (.invokevirtual 81, 3) := by decide +kernel
theorem dX0_tellCuts_5 : decode cX0_tellCuts 5 = .ok (.ifCond .eq 12, 3) := by decide +kernel
theorem dX0_tellCuts_8 : decode cX0_tellCuts 8 = .ok (.aload_n 0, 1) := by decide +kernel
theorem dX0_tellCuts_9 : decode cX0_tellCuts 9 = .ok (.getfield 19, 3) := by decide +kernel
theorem dX0_tellCuts_12 : decode cX0_tellCuts 12 = .ok (.iload_n 1, 1) := by decide +kernel
theorem dX0_tellCuts_13 : decode cX0_tellCuts 13 = .ok (.iaload, 1) := by decide +kernel
theorem dX0_tellCuts_14 : decode cX0_tellCuts 14 = .ok (.goto 4, 3) := by decide +kernel
theorem dX0_tellCuts_17 : decode cX0_tellCuts 17 = .ok (.iconst 0, 1) := by decide +kernel
theorem dX0_tellCuts_18 : decode cX0_tellCuts 18 = .ok (.istore_n 3, 1) := by decide +kernel
theorem dX0_tellCuts_19 : decode cX0_tellCuts 19 = .ok (.iload_n 2, 1) := by decide +kernel
theorem dX0_tellCuts_20 : decode cX0_tellCuts 20 = .ok (.iload_n 3, 1) := by decide +kernel
theorem dX0_tellCuts_21 : decode cX0_tellCuts 21 = .ok (.iconst (-1), 1) := by decide +kernel
theorem dX0_tellCuts_22 : decode cX0_tellCuts 22 = .ok (.ixor, 1) := by decide +kernel
theorem dX0_tellCuts_23 : decode cX0_tellCuts 23 = .ok (.iand, 1) := by decide +kernel
theorem dX0_tellCuts_24 : decode cX0_tellCuts 24 = .ok (.istore 4, 2) := by decide +kernel
theorem dX0_tellCuts_26 : decode cX0_tellCuts 26 = .ok (.aload_n 0, 1) := by decide +kernel
theorem dX0_tellCuts_27 : decode cX0_tellCuts 27 = .ok (.invokevirtual 64, 3) := by decide +kernel
theorem dX0_tellCuts_30 : decode cX0_tellCuts 30 = .ok (.istore 5, 2) := by decide +kernel
theorem dX0_tellCuts_32 : decode cX0_tellCuts 32 = .ok (.iconst 0, 1) := by decide +kernel
theorem dX0_tellCuts_33 : decode cX0_tellCuts 33 = .ok (.istore 6, 2) := by decide +kernel
theorem dX0_tellCuts_35 : decode cX0_tellCuts 35 = .ok (.iload 6, 2) := by decide +kernel
theorem dX0_tellCuts_37 : decode cX0_tellCuts 37 = .ok (.bipush 16, 2) := by decide +kernel
theorem dX0_tellCuts_39 : decode cX0_tellCuts 39 = .ok (.if_icmp .ge 32, 3) := by decide +kernel
theorem dX0_tellCuts_42 : decode cX0_tellCuts 42 = .ok (.iload 4, 2) := by decide +kernel
theorem dX0_tellCuts_44 : decode cX0_tellCuts 44 = .ok (.iload 6, 2) := by decide +kernel
theorem dX0_tellCuts_46 : decode cX0_tellCuts 46 = .ok (.invokestatic 84, 3) := by decide +kernel
theorem dX0_tellCuts_49 : decode cX0_tellCuts 49 = .ok (.ifCond .eq 16, 3) := by decide +kernel
theorem dX0_tellCuts_52 : decode cX0_tellCuts 52 = .ok (.aload_n 0, 1) := by decide +kernel
theorem dX0_tellCuts_53 : decode cX0_tellCuts 53 = .ok (.getfield 22, 3) := by decide +kernel
theorem dX0_tellCuts_56 : decode cX0_tellCuts 56 = .ok (.iload_n 1, 1) := by decide +kernel
theorem dX0_tellCuts_57 : decode cX0_tellCuts 57 = .ok (.iload 6, 2) := by decide +kernel
theorem dX0_tellCuts_59 : decode cX0_tellCuts 59 = .ok (.invokestatic 88, 3) := by decide +kernel
theorem dX0_tellCuts_62 : decode cX0_tellCuts 62 = .ok (.iload 5, 2) := by decide +kernel
theorem dX0_tellCuts_64 : decode cX0_tellCuts 64 = .ok (.iastore, 1) := by decide +kernel
theorem dX0_tellCuts_65 : decode cX0_tellCuts 65 = .ok (.iinc 6 1, 3) := by decide +kernel
theorem dX0_tellCuts_68 : decode cX0_tellCuts 68 = .ok (.goto (-33), 3) := by decide +kernel
theorem dX0_tellCuts_71 : decode cX0_tellCuts 71 = .ok (.aload_n 0, 1) := by decide +kernel
theorem dX0_tellCuts_72 : decode cX0_tellCuts 72 = .ok (.getfield 19, 3) := by decide +kernel
theorem dX0_tellCuts_75 : decode cX0_tellCuts 75 = .ok (.iload_n 1, 1) := by decide +kernel
theorem dX0_tellCuts_76 : decode cX0_tellCuts 76 = .ok (.iload_n 2, 1) := by decide +kernel
theorem dX0_tellCuts_77 : decode cX0_tellCuts 77 = .ok (.iastore, 1) := by decide +kernel
theorem dX0_tellCuts_78 : decode cX0_tellCuts 78 = .ok (.return_, 1) := by decide +kernel
set_option maxRecDepth 20000 in
theorem ggX0_isCutOff_X0_hasBit : GoodIn wsX0_isCutOff wsX0_hasBit := goodIn_r _ [7] (by decide +kernel) (by decide +kernel)
set_option maxRecDepth 20000 in
theorem gX0_isCutOff_X0_hasBit : GoodIn wsX0_isCutOff (va_wsS RX0 84 yX0_hasBit wsX0_hasBit) := goodIn_app (goodIn_of _ (by decide +kernel)) ggX0_isCutOff_X0_hasBit
set_option maxRecDepth 20000 in
theorem ggX0_isCutOff_X0_cutPlace : GoodIn wsX0_isCutOff wsX0_cutPlace := goodIn_r _ [10] (by decide +kernel) (by decide +kernel)
set_option maxRecDepth 20000 in
theorem gX0_isCutOff_X0_cutPlace : GoodIn wsX0_isCutOff (va_wsS RX0 88 yX0_cutPlace wsX0_cutPlace) := goodIn_app (goodIn_of _ (by decide +kernel)) ggX0_isCutOff_X0_cutPlace
theorem dX0_isCutOff_0 : decode cX0_isCutOff 0 = .ok (.aload_n 0, 1) := by decide +kernel
theorem dX0_isCutOff_1 : decode cX0_isCutOff 1 = .ok (.getfield 19, 3) := by decide +kernel
theorem dX0_isCutOff_4 : decode cX0_isCutOff 4 = .ok (.iload_n 1, 1) := by decide +kernel
theorem dX0_isCutOff_5 : decode cX0_isCutOff 5 = .ok (.iaload, 1) := by decide +kernel
theorem dX0_isCutOff_6 : decode cX0_isCutOff 6 = .ok (.iload_n 2, 1) := by decide +kernel
theorem dX0_isCutOff_7 : decode cX0_isCutOff 7 = .ok (.invokestatic 84, 3) := by decide +kernel
theorem dX0_isCutOff_10 : decode cX0_isCutOff 10 = .ok (.ifCond .eq 24, 3) := by decide +kernel
theorem dX0_isCutOff_13 : decode cX0_isCutOff 13 = .ok (.aload_n 0, 1) := by decide +kernel
theorem dX0_isCutOff_14 : decode cX0_isCutOff 14 = .ok (.getfield 38, 3) := by decide +kernel
theorem dX0_isCutOff_17 : decode cX0_isCutOff 17 = .ok (.aload_n 0, 1) := by decide +kernel
theorem dX0_isCutOff_18 : decode cX0_isCutOff 18 = .ok (.getfield 22, 3) := by decide +kernel
theorem dX0_isCutOff_21 : decode cX0_isCutOff 21 = .ok (.iload_n 1, 1) := by decide +kernel
theorem dX0_isCutOff_22 : decode cX0_isCutOff 22 = .ok (.iload_n 2, 1) := by decide +kernel
theorem dX0_isCutOff_23 : decode cX0_isCutOff 23 = .ok (.invokestatic 88, 3) := by decide +kernel
theorem dX0_isCutOff_26 : decode cX0_isCutOff 26 = .ok (.iaload, 1) := by decide +kernel
theorem dX0_isCutOff_27 : decode cX0_isCutOff 27 = .ok (.if_icmp .lt 7, 3) := by decide +kernel
theorem dX0_isCutOff_30 : decode cX0_isCutOff 30 = .ok (.iconst 1, 1) := by decide +kernel
theorem dX0_isCutOff_31 : decode cX0_isCutOff 31 = .ok (.goto 4, 3) := by decide +kernel
theorem dX0_isCutOff_34 : decode cX0_isCutOff 34 = .ok (.iconst 0, 1) := by decide +kernel
theorem dX0_isCutOff_35 : decode cX0_isCutOff 35 = .ok (.ireturn, 1) := by decide +kernel
set_option maxRecDepth 20000 in
theorem ggX0_sourcesThatGo_X0_stands : GoodIn wsX0_sourcesThatGo wsX0_stands := goodIn_r _ [8, 9, 39, 40, 41, 42, 43, 44, 45] (by decide +kernel) (by decide +kernel)
set_option maxRecDepth 20000 in
theorem gX0_sourcesThatGo_X0_stands : GoodIn wsX0_sourcesThatGo (wsV RX0 46 RX0 yX0_stands wsX0_stands) := goodIn_app (goodIn_of _ (by decide +kernel)) ggX0_sourcesThatGo_X0_stands
set_option maxRecDepth 20000 in
theorem ggX0_sourcesThatGo_X0_isFirst : GoodIn wsX0_sourcesThatGo wsX0_isFirst := goodIn_r _ [13, 14, 15, 16, 17, 7, 18, 19, 4, 5, 6, 8, 9, 39, 40, 41, 42, 43, 44, 45] (by decide +kernel) (by decide +kernel)
set_option maxRecDepth 20000 in
theorem gX0_sourcesThatGo_X0_isFirst : GoodIn wsX0_sourcesThatGo (wsV RX0 97 RX0 yX0_isFirst wsX0_isFirst) := goodIn_app (goodIn_of _ (by decide +kernel)) ggX0_sourcesThatGo_X0_isFirst
set_option maxRecDepth 20000 in
theorem ggX0_sourcesThatGo_X0_isJoinedForStar : GoodIn wsX0_sourcesThatGo wsX0_isJoinedForStar := goodIn_r _ [23, 3, 24, 25, 7, 26, 4, 5, 6, 8, 9, 39, 40, 41, 42, 43, 44, 45] (by decide +kernel) (by decide +kernel)
set_option maxRecDepth 20000 in
theorem gX0_sourcesThatGo_X0_isJoinedForStar : GoodIn wsX0_sourcesThatGo (wsV RX0 81 RX0 yX0_isJoinedForStar wsX0_isJoinedForStar) := goodIn_app (goodIn_of _ (by decide +kernel)) ggX0_sourcesThatGo_X0_isJoinedForStar
set_option maxRecDepth 20000 in
theorem ggX0_sourcesThatGo_X0_isCutOff : GoodIn wsX0_sourcesThatGo wsX0_isCutOff := goodIn_r _ [30, 31, 9, 32, 33, 34, 7, 35, 36, 37, 38, 39, 40, 41, 42, 43, 44, 45] (by decide +kernel) (by decide +kernel)
set_option maxRecDepth 20000 in
theorem gX0_sourcesThatGo_X0_isCutOff : GoodIn wsX0_sourcesThatGo (wsV RX0 118 RX0 yX0_isCutOff wsX0_isCutOff) := goodIn_app (goodIn_of _ (by decide +kernel)) ggX0_sourcesThatGo_X0_isCutOff
set_option maxRecDepth 20000 in
theorem ggX0_sourcesThatGo_X0_branchPlace : GoodIn wsX0_sourcesThatGo wsX0_branchPlace := goodIn_r _ [26] (by decide +kernel) (by decide +kernel)
set_option maxRecDepth 20000 in
theorem gX0_sourcesThatGo_X0_branchPlace : GoodIn wsX0_sourcesThatGo (va_wsS RX0 61 yX0_branchPlace wsX0_branchPlace) := goodIn_app (goodIn_of _ (by decide +kernel)) ggX0_sourcesThatGo_X0_branchPlace
theorem dX0_sourcesThatGo_0 : decode cX0_sourcesThatGo 0 = .ok (.aload_n 0, 1) := by decide +kernel
theorem dX0_sourcesThatGo_1 : decode cX0_sourcesThatGo 1 = .ok (.aload_n 0, 1) := by decide +kernel
theorem dX0_sourcesThatGo_2 : decode cX0_sourcesThatGo 2 = .ok (.getfield 13, 3) := by decide +kernel
theorem dX0_sourcesThatGo_5 : decode cX0_sourcesThatGo 5 = .ok (.iload_n 1, 1) := by decide +kernel
theorem dX0_sourcesThatGo_6 : decode cX0_sourcesThatGo 6 = .ok (.iaload, 1) := by decide +kernel
theorem dX0_sourcesThatGo_7 : decode cX0_sourcesThatGo 7 = .ok (.invokevirtual 46, 3) := by decide +kernel
theorem dX0_sourcesThatGo_10 : decode cX0_sourcesThatGo 10 = .ok (.ifCond .eq 13, 3) := by decide +kernel
theorem dX0_sourcesThatGo_13 : decode cX0_sourcesThatGo 13 = .ok (.aload_n 0, 1) := by decide +kernel
theorem dX0_sourcesThatGo_14 : decode cX0_sourcesThatGo 14 = .ok (.invokevirtual 97, 3) := by decide +kernel
theorem dX0_sourcesThatGo_17 : decode cX0_sourcesThatGo 17 = .ok (.ifCond .eq 6, 3) := by decide +kernel
theorem dX0_sourcesThatGo_20 : decode cX0_sourcesThatGo 20 = .ok (.ldc 56, 2) := by decide +kernel
theorem dX0_sourcesThatGo_22 : decode cX0_sourcesThatGo 22 = .ok (.ireturn, 1) := by decide +kernel
theorem dX0_sourcesThatGo_23 : decode cX0_sourcesThatGo 23 = .ok (.aload_n 0, 1) := by decide +kernel
theorem dX0_sourcesThatGo_24 : decode cX0_sourcesThatGo 24 = .ok (.iload_n 1, 1) := by decide +kernel
theorem dX0_sourcesThatGo_25 : decode cX0_sourcesThatGo 25 = .ok (.invokevirtual 81, 3) := by decide +kernel
theorem dX0_sourcesThatGo_28 : decode cX0_sourcesThatGo 28 = .ok (.istore_n 2, 1) := by decide +kernel
theorem dX0_sourcesThatGo_29 : decode cX0_sourcesThatGo 29 = .ok (.iconst 0, 1) := by decide +kernel
theorem dX0_sourcesThatGo_30 : decode cX0_sourcesThatGo 30 = .ok (.istore_n 3, 1) := by decide +kernel
theorem dX0_sourcesThatGo_31 : decode cX0_sourcesThatGo 31 = .ok (.iconst 0, 1) := by decide +kernel
theorem dX0_sourcesThatGo_32 : decode cX0_sourcesThatGo 32 = .ok (.istore 4, 2) := by decide +kernel
theorem dX0_sourcesThatGo_34 : decode cX0_sourcesThatGo 34 = .ok (.iload 4, 2) := by decide +kernel
theorem dX0_sourcesThatGo_36 : decode cX0_sourcesThatGo 36 = .ok (.bipush 16, 2) := by decide +kernel
theorem dX0_sourcesThatGo_38 : decode cX0_sourcesThatGo 38 = .ok (.if_icmp .ge 48, 3) := by decide +kernel
theorem dX0_sourcesThatGo_41 : decode cX0_sourcesThatGo 41 = .ok (.iload_n 2, 1) := by decide +kernel
theorem dX0_sourcesThatGo_42 : decode cX0_sourcesThatGo 42 = .ok (.ifCond .eq 13, 3) := by decide +kernel
theorem dX0_sourcesThatGo_45 : decode cX0_sourcesThatGo 45 = .ok (.aload_n 0, 1) := by decide +kernel
theorem dX0_sourcesThatGo_46 : decode cX0_sourcesThatGo 46 = .ok (.iload_n 1, 1) := by decide +kernel
theorem dX0_sourcesThatGo_47 : decode cX0_sourcesThatGo 47 = .ok (.iload 4, 2) := by decide +kernel
theorem dX0_sourcesThatGo_49 : decode cX0_sourcesThatGo 49 = .ok (.invokevirtual 118, 3) := by decide +kernel
theorem dX0_sourcesThatGo_52 : decode cX0_sourcesThatGo 52 = .ok (.ifCond .eq 21, 3) := by decide +kernel
theorem dX0_sourcesThatGo_55 : decode cX0_sourcesThatGo 55 = .ok (.aload_n 0, 1) := by decide +kernel
theorem dX0_sourcesThatGo_56 : decode cX0_sourcesThatGo 56 = .ok (.aload_n 0, 1) := by decide +kernel
theorem dX0_sourcesThatGo_57 : decode cX0_sourcesThatGo 57 = .ok (.getfield 16, 3) := by decide +kernel
theorem dX0_sourcesThatGo_60 : decode cX0_sourcesThatGo 60 = .ok (.iload_n 1, 1) := by decide +kernel
theorem dX0_sourcesThatGo_61 : decode cX0_sourcesThatGo 61 = .ok (.iload 4, 2) := by decide +kernel
theorem dX0_sourcesThatGo_63 : decode cX0_sourcesThatGo 63 = .ok (.invokestatic 61, 3) := by decide +kernel
theorem dX0_sourcesThatGo_66 : decode cX0_sourcesThatGo 66 = .ok (.iaload, 1) := by decide +kernel
theorem dX0_sourcesThatGo_67 : decode cX0_sourcesThatGo 67 = .ok (.invokevirtual 46, 3) := by decide +kernel
theorem dX0_sourcesThatGo_70 : decode cX0_sourcesThatGo 70 = .ok (.ifCond .eq 10, 3) := by decide +kernel
theorem dX0_sourcesThatGo_73 : decode cX0_sourcesThatGo 73 = .ok (.iload_n 3, 1) := by decide +kernel
theorem dX0_sourcesThatGo_74 : decode cX0_sourcesThatGo 74 = .ok (.iconst 1, 1) := by decide +kernel
theorem dX0_sourcesThatGo_75 : decode cX0_sourcesThatGo 75 = .ok (.iload 4, 2) := by decide +kernel
theorem dX0_sourcesThatGo_77 : decode cX0_sourcesThatGo 77 = .ok (.ishl, 1) := by decide +kernel
theorem dX0_sourcesThatGo_78 : decode cX0_sourcesThatGo 78 = .ok (.ior, 1) := by decide +kernel
theorem dX0_sourcesThatGo_79 : decode cX0_sourcesThatGo 79 = .ok (.istore_n 3, 1) := by decide +kernel
theorem dX0_sourcesThatGo_80 : decode cX0_sourcesThatGo 80 = .ok (.iinc 4 1, 3) := by decide +kernel
theorem dX0_sourcesThatGo_83 : decode cX0_sourcesThatGo 83 = .ok (.goto (-49), 3) := by decide +kernel
theorem dX0_sourcesThatGo_86 : decode cX0_sourcesThatGo 86 = .ok (.iload_n 3, 1) := by decide +kernel
theorem dX0_sourcesThatGo_87 : decode cX0_sourcesThatGo 87 = .ok (.ireturn, 1) := by decide +kernel
set_option maxRecDepth 20000 in
theorem ggX0_groupsThatGo_X0_sourcesThatGo : GoodIn wsX0_groupsThatGo wsX0_sourcesThatGo := goodIn_r _ [5, 6, 7, 8, 9, 10, 11, 4, 12, 13, 14, 15, 16, 17, 18, 19, 20, 21, 22, 23, 24, 25, 26, 27, 28, 29, 30, 31, 32, 33, 34, 35, 36, 37, 38, 39, 40, 41, 42, 43, 44, 45, 46, 47, 48, 49] (by decide +kernel) (by decide +kernel)
set_option maxRecDepth 20000 in
theorem gX0_groupsThatGo_X0_sourcesThatGo : GoodIn wsX0_groupsThatGo (wsV RX0 91 RX0 yX0_sourcesThatGo wsX0_sourcesThatGo) := goodIn_app (goodIn_of _ (by decide +kernel)) ggX0_groupsThatGo_X0_sourcesThatGo
theorem dX0_groupsThatGo_0 : decode cX0_groupsThatGo 0 = .ok (.iconst 0, 1) := by decide +kernel
theorem dX0_groupsThatGo_1 : decode cX0_groupsThatGo 1 = .ok (.istore_n 1, 1) := by decide +kernel
theorem dX0_groupsThatGo_2 : decode cX0_groupsThatGo 2 = .ok (.iconst 0, 1) := by decide +kernel
theorem dX0_groupsThatGo_3 : decode cX0_groupsThatGo 3 = .ok (.istore_n 2, 1) := by decide +kernel
theorem dX0_groupsThatGo_4 : decode cX0_groupsThatGo 4 = .ok (.iload_n 2, 1) := by decide +kernel
theorem dX0_groupsThatGo_5 : decode cX0_groupsThatGo 5 = .ok (.bipush 8, 2) := by decide +kernel
theorem dX0_groupsThatGo_7 : decode cX0_groupsThatGo 7 = .ok (.if_icmp .ge 23, 3) := by decide +kernel
theorem dX0_groupsThatGo_10 : decode cX0_groupsThatGo 10 = .ok (.aload_n 0, 1) := by decide +kernel
theorem dX0_groupsThatGo_11 : decode cX0_groupsThatGo 11 = .ok (.iload_n 2, 1) := by decide +kernel
theorem dX0_groupsThatGo_12 : decode cX0_groupsThatGo 12 = .ok (.invokevirtual 91, 3) := by decide +kernel
theorem dX0_groupsThatGo_15 : decode cX0_groupsThatGo 15 = .ok (.ifCond .eq 9, 3) := by decide +kernel
theorem dX0_groupsThatGo_18 : decode cX0_groupsThatGo 18 = .ok (.iload_n 1, 1) := by decide +kernel
theorem dX0_groupsThatGo_19 : decode cX0_groupsThatGo 19 = .ok (.iconst 1, 1) := by decide +kernel
theorem dX0_groupsThatGo_20 : decode cX0_groupsThatGo 20 = .ok (.iload_n 2, 1) := by decide +kernel
theorem dX0_groupsThatGo_21 : decode cX0_groupsThatGo 21 = .ok (.ishl, 1) := by decide +kernel
theorem dX0_groupsThatGo_22 : decode cX0_groupsThatGo 22 = .ok (.ior, 1) := by decide +kernel
theorem dX0_groupsThatGo_23 : decode cX0_groupsThatGo 23 = .ok (.istore_n 1, 1) := by decide +kernel
theorem dX0_groupsThatGo_24 : decode cX0_groupsThatGo 24 = .ok (.iinc 2 1, 3) := by decide +kernel
theorem dX0_groupsThatGo_27 : decode cX0_groupsThatGo 27 = .ok (.goto (-23), 3) := by decide +kernel
theorem dX0_groupsThatGo_30 : decode cX0_groupsThatGo 30 = .ok (.iload_n 1, 1) := by decide +kernel
theorem dX0_groupsThatGo_31 : decode cX0_groupsThatGo 31 = .ok (.ireturn, 1) := by decide +kernel
set_option maxRecDepth 20000 in
theorem ggX0_countJoined_X0_stands : GoodIn wsX0_countJoined wsX0_stands := goodIn_r _ [6, 7, 8, 9, 10, 11, 12, 13, 14] (by decide +kernel) (by decide +kernel)
set_option maxRecDepth 20000 in
theorem gX0_countJoined_X0_stands : GoodIn wsX0_countJoined (wsV RX0 46 RX0 yX0_stands wsX0_stands) := goodIn_app (goodIn_of _ (by decide +kernel)) ggX0_countJoined_X0_stands
theorem dX0_countJoined_0 : decode cX0_countJoined 0 = .ok (.iconst 0, 1) := by decide +kernel
theorem dX0_countJoined_1 : decode cX0_countJoined 1 = .ok (.istore_n 1, 1) := by decide +kernel
theorem dX0_countJoined_2 : decode cX0_countJoined 2 = .ok (.iconst 0, 1) := by decide +kernel
theorem dX0_countJoined_3 : decode cX0_countJoined 3 = .ok (.istore_n 2, 1) := by decide +kernel
theorem dX0_countJoined_4 : decode cX0_countJoined 4 = .ok (.iload_n 2, 1) := by decide +kernel
theorem dX0_countJoined_5 : decode cX0_countJoined 5 = .ok (.sipush 136, 3) := by decide +kernel
theorem dX0_countJoined_8 : decode cX0_countJoined 8 = .ok (.if_icmp .ge 25, 3) := by decide +kernel
theorem dX0_countJoined_11 : decode cX0_countJoined 11 = .ok (.aload_n 0, 1) := by decide +kernel
theorem dX0_countJoined_12 : decode cX0_countJoined 12 = .ok (.aload_n 0, 1) := by decide +kernel
theorem dX0_countJoined_13 : decode cX0_countJoined 13 = .ok (.getfield 16, 3) := by decide +kernel
theorem dX0_countJoined_16 : decode cX0_countJoined 16 = .ok (.iload_n 2, 1) := by decide +kernel
theorem dX0_countJoined_17 : decode cX0_countJoined 17 = .ok (.iaload, 1) := by decide +kernel
theorem dX0_countJoined_18 : decode cX0_countJoined 18 = .ok (.invokevirtual 46, 3) := by decide +kernel
theorem dX0_countJoined_21 : decode cX0_countJoined 21 = .ok (.ifCond .eq 6, 3) := by decide +kernel
theorem dX0_countJoined_24 : decode cX0_countJoined 24 = .ok (.iinc 1 1, 3) := by decide +kernel
theorem dX0_countJoined_27 : decode cX0_countJoined 27 = .ok (.iinc 2 1, 3) := by decide +kernel
theorem dX0_countJoined_30 : decode cX0_countJoined 30 = .ok (.goto (-26), 3) := by decide +kernel
theorem dX0_countJoined_33 : decode cX0_countJoined 33 = .ok (.iload_n 1, 1) := by decide +kernel
theorem dX0_countJoined_34 : decode cX0_countJoined 34 = .ok (.ireturn, 1) := by decide +kernel
end
section
set_option maxRecDepth 20000 in
theorem ggX1_init_X1_forgetAll : GoodIn wsX1_init wsX1_forgetAll := goodIn_r _ [16, 5, 6, 8, 10, 17, 18, 19, 20, 21, 22, 23, 24] (by decide +kernel) (by decide +kernel)
set_option maxRecDepth 20000 in
theorem gX1_init_X1_forgetAll : GoodIn wsX1_init (wsV RX1 32 RX1 yX1_forgetAll wsX1_forgetAll) := goodIn_app (goodIn_of _ (by decide +kernel)) ggX1_init_X1_forgetAll
theorem dX1_init_0 : decode cX1_init 0 = .ok (.aload_n 0, 1) := by decide +kernel
theorem dX1_init_1 : decode cX1_init 1 = .ok (.invokespecial 1, 3) := by decide +kernel
theorem dX1_init_4 : decode cX1_init 4 = .ok (.aload_n 0, 1) := by decide +kernel
theorem dX1_init_5 : decode cX1_init 5 = .ok (.bipush 10, 2) := by decide +kernel
theorem dX1_init_7 : decode cX1_init 7 = .ok (.newarray .int, 2) := by decide +kernel
theorem dX1_init_9 : decode cX1_init 9 = .ok (.putfield 7, 3) := by decide +kernel
theorem dX1_init_12 : decode cX1_init 12 = .ok (.aload_n 0, 1) := by decide +kernel
theorem dX1_init_13 : decode cX1_init 13 = .ok (.bipush 8, 2) := by decide +kernel
theorem dX1_init_15 : decode cX1_init 15 = .ok (.newarray .int, 2) := by decide +kernel
theorem dX1_init_17 : decode cX1_init 17 = .ok (.putfield 13, 3) := by decide +kernel
theorem dX1_init_20 : decode cX1_init 20 = .ok (.aload_n 0, 1) := by decide +kernel
theorem dX1_init_21 : decode cX1_init 21 = .ok (.bipush 8, 2) := by decide +kernel
theorem dX1_init_23 : decode cX1_init 23 = .ok (.newarray .int, 2) := by decide +kernel
theorem dX1_init_25 : decode cX1_init 25 = .ok (.putfield 16, 3) := by decide +kernel
theorem dX1_init_28 : decode cX1_init 28 = .ok (.aload_n 0, 1) := by decide +kernel
theorem dX1_init_29 : decode cX1_init 29 = .ok (.sipush 136, 3) := by decide +kernel
theorem dX1_init_32 : decode cX1_init 32 = .ok (.newarray .int, 2) := by decide +kernel
theorem dX1_init_34 : decode cX1_init 34 = .ok (.putfield 19, 3) := by decide +kernel
theorem dX1_init_37 : decode cX1_init 37 = .ok (.aload_n 0, 1) := by decide +kernel
theorem dX1_init_38 : decode cX1_init 38 = .ok (.sipush 136, 3) := by decide +kernel
theorem dX1_init_41 : decode cX1_init 41 = .ok (.newarray .int, 2) := by decide +kernel
theorem dX1_init_43 : decode cX1_init 43 = .ok (.putfield 22, 3) := by decide +kernel
theorem dX1_init_46 : decode cX1_init 46 = .ok (.aload_n 0, 1) := by decide +kernel
theorem dX1_init_47 : decode cX1_init 47 = .ok (.sipush 128, 3) := by decide +kernel
theorem dX1_init_50 : decode cX1_init 50 = .ok (.newarray .int, 2) := by decide +kernel
theorem dX1_init_52 : decode cX1_init 52 = .ok (.putfield 25, 3) := by decide +kernel
theorem dX1_init_55 : decode cX1_init 55 = .ok (.aload_n 0, 1) := by decide +kernel
theorem dX1_init_56 : decode cX1_init 56 = .ok (.iload_n 1, 1) := by decide +kernel
theorem dX1_init_57 : decode cX1_init 57 = .ok (.ifCond .ge 7, 3) := by decide +kernel
theorem dX1_init_60 : decode cX1_init 60 = .ok (.iconst 0, 1) := by decide +kernel
theorem dX1_init_61 : decode cX1_init 61 = .ok (.goto 15, 3) := by decide +kernel
theorem dX1_init_64 : decode cX1_init 64 = .ok (.iload_n 1, 1) := by decide +kernel
theorem dX1_init_65 : decode cX1_init 65 = .ok (.bipush 9, 2) := by decide +kernel
theorem dX1_init_67 : decode cX1_init 67 = .ok (.if_icmp .le 8, 3) := by decide +kernel
theorem dX1_init_70 : decode cX1_init 70 = .ok (.bipush 9, 2) := by decide +kernel
theorem dX1_init_72 : decode cX1_init 72 = .ok (.goto 4, 3) := by decide +kernel
theorem dX1_init_75 : decode cX1_init 75 = .ok (.iload_n 1, 1) := by decide +kernel
theorem dX1_init_76 : decode cX1_init 76 = .ok (.putfield 28, 3) := by decide +kernel
theorem dX1_init_79 : decode cX1_init 79 = .ok (.aload_n 0, 1) := by decide +kernel
theorem dX1_init_80 : decode cX1_init 80 = .ok (.invokevirtual 32, 3) := by decide +kernel
theorem dX1_init_83 : decode cX1_init 83 = .ok (.return_, 1) := by decide +kernel
theorem dX1_forgetAll_0 : decode cX1_forgetAll 0 = .ok (.iconst 0, 1) := by decide +kernel
theorem dX1_forgetAll_1 : decode cX1_forgetAll 1 = .ok (.istore_n 1, 1) := by decide +kernel
theorem dX1_forgetAll_2 : decode cX1_forgetAll 2 = .ok (.iload_n 1, 1) := by decide +kernel
theorem dX1_forgetAll_3 : decode cX1_forgetAll 3 = .ok (.bipush 10, 2) := by decide +kernel
theorem dX1_forgetAll_5 : decode cX1_forgetAll 5 = .ok (.if_icmp .ge 16, 3) := by decide +kernel
theorem dX1_forgetAll_8 : decode cX1_forgetAll 8 = .ok (.aload_n 0, 1) := by decide +kernel
theorem dX1_forgetAll_9 : decode cX1_forgetAll 9 = .ok (.getfield 7, 3) := by decide +kernel
theorem dX1_forgetAll_12 : decode cX1_forgetAll 12 = .ok (.iload_n 1, 1) := by decide +kernel
theorem dX1_forgetAll_13 : decode cX1_forgetAll 13 = .ok (.iconst (-1), 1) := by decide +kernel
theorem dX1_forgetAll_14 : decode cX1_forgetAll 14 = .ok (.iastore, 1) := by decide +kernel
theorem dX1_forgetAll_15 : decode cX1_forgetAll 15 = .ok (.iinc 1 1, 3) := by decide +kernel
theorem dX1_forgetAll_18 : decode cX1_forgetAll 18 = .ok (.goto (-16), 3) := by decide +kernel
theorem dX1_forgetAll_21 : decode cX1_forgetAll 21 = .ok (.iconst 0, 1) := by decide +kernel
theorem dX1_forgetAll_22 : decode cX1_forgetAll 22 = .ok (.istore_n 1, 1) := by decide +kernel
theorem dX1_forgetAll_23 : decode cX1_forgetAll 23 = .ok (.iload_n 1, 1) := by decide +kernel
theorem dX1_forgetAll_24 : decode cX1_forgetAll 24 = .ok (.bipush 8, 2) := by decide +kernel
theorem dX1_forgetAll_26 : decode cX1_forgetAll 26 = .ok (.if_icmp .ge 16, 3) := by decide +kernel
theorem dX1_forgetAll_29 : decode cX1_forgetAll 29 = .ok (.aload_n 0, 1) := by decide +kernel
theorem dX1_forgetAll_30 : decode cX1_forgetAll 30 = .ok (.getfield 13, 3) := by decide +kernel
theorem dX1_forgetAll_33 : decode cX1_forgetAll 33 = .ok (.iload_n 1, 1) := by decide +kernel
theorem dX1_forgetAll_34 : decode cX1_forgetAll 34 = .ok (.iconst (-1), 1) := by decide +kernel
theorem dX1_forgetAll_35 : decode cX1_forgetAll 35 = .ok (.iastore, 1) := by decide +kernel
theorem dX1_forgetAll_36 : decode cX1_forgetAll 36 = .ok (.iinc 1 1, 3) := by decide +kernel
theorem dX1_forgetAll_39 : decode cX1_forgetAll 39 = .ok (.goto (-16), 3) := by decide +kernel
theorem dX1_forgetAll_42 : decode cX1_forgetAll 42 = .ok (.iconst 0, 1) := by decide +kernel
theorem dX1_forgetAll_43 : decode cX1_forgetAll 43 = .ok (.istore_n 1, 1) := by decide +kernel
theorem dX1_forgetAll_44 : decode cX1_forgetAll 44 = .ok (.iload_n 1, 1) := by decide +kernel
theorem dX1_forgetAll_45 : decode cX1_forgetAll 45 = .ok (.sipush 136, 3) := by decide +kernel
theorem dX1_forgetAll_48 : decode cX1_forgetAll 48 = .ok (.if_icmp .ge 16, 3) := by decide +kernel
theorem dX1_forgetAll_51 : decode cX1_forgetAll 51 = .ok (.aload_n 0, 1) := by decide +kernel
theorem dX1_forgetAll_52 : decode cX1_forgetAll 52 = .ok (.getfield 19, 3) := by decide +kernel
theorem dX1_forgetAll_55 : decode cX1_forgetAll 55 = .ok (.iload_n 1, 1) := by decide +kernel
theorem dX1_forgetAll_56 : decode cX1_forgetAll 56 = .ok (.iconst (-1), 1) := by decide +kernel
theorem dX1_forgetAll_57 : decode cX1_forgetAll 57 = .ok (.iastore, 1) := by decide +kernel
theorem dX1_forgetAll_58 : decode cX1_forgetAll 58 = .ok (.iinc 1 1, 3) := by decide +kernel
theorem dX1_forgetAll_61 : decode cX1_forgetAll 61 = .ok (.goto (-17), 3) := by decide +kernel
theorem dX1_forgetAll_64 : decode cX1_forgetAll 64 = .ok (.iconst 0, 1) := by decide +kernel
theorem dX1_forgetAll_65 : decode cX1_forgetAll 65 = .ok (.istore_n 1, 1) := by decide +kernel
theorem dX1_forgetAll_66 : decode cX1_forgetAll 66 = .ok (.iload_n 1, 1) := by decide +kernel
theorem dX1_forgetAll_67 : decode cX1_forgetAll 67 = .ok (.sipush 128, 3) := by decide +kernel
theorem dX1_forgetAll_70 : decode cX1_forgetAll 70 = .ok (.if_icmp .ge 16, 3) := by decide +kernel
theorem dX1_forgetAll_73 : decode cX1_forgetAll 73 = .ok (.aload_n 0, 1) := by decide +kernel
theorem dX1_forgetAll_74 : decode cX1_forgetAll 74 = .ok (.getfield 25, 3) := by decide +kernel
theorem dX1_forgetAll_77 : decode cX1_forgetAll 77 = .ok (.iload_n 1, 1) := by decide +kernel
theorem dX1_forgetAll_78 : decode cX1_forgetAll 78 = .ok (.iconst (-1), 1) := by decide +kernel
theorem dX1_forgetAll_79 : decode cX1_forgetAll 79 = .ok (.iastore, 1) := by decide +kernel
theorem dX1_forgetAll_80 : decode cX1_forgetAll 80 = .ok (.iinc 1 1, 3) := by decide +kernel
theorem dX1_forgetAll_83 : decode cX1_forgetAll 83 = .ok (.goto (-17), 3) := by decide +kernel
theorem dX1_forgetAll_86 : decode cX1_forgetAll 86 = .ok (.return_, 1) := by decide +kernel
theorem dX1_isGroup_0 : decode cX1_isGroup 0 = .ok (.iload_n 0, 1) := by decide +kernel
theorem dX1_isGroup_1 : decode cX1_isGroup 1 = .ok (.ifCond .lt 13, 3) := by decide +kernel
theorem dX1_isGroup_4 : decode cX1_isGroup 4 = .ok (.iload_n 0, 1) := by decide +kernel
theorem dX1_isGroup_5 : decode cX1_isGroup 5 = .ok (.bipush 8, 2) := by decide +kernel
theorem dX1_isGroup_7 : decode cX1_isGroup 7 = .ok (.if_icmp .ge 7, 3) := by decide +kernel
theorem dX1_isGroup_10 : decode cX1_isGroup 10 = .ok (.iconst 1, 1) := by decide +kernel
theorem dX1_isGroup_11 : decode cX1_isGroup 11 = .ok (.goto 4, 3) := by decide +kernel
theorem dX1_isGroup_14 : decode cX1_isGroup 14 = .ok (.iconst 0, 1) := by decide +kernel
theorem dX1_isGroup_15 : decode cX1_isGroup 15 = .ok (.ireturn, 1) := by decide +kernel
set_option maxRecDepth 20000 in
theorem ggX1_isBranch_X1_isGroup : GoodIn wsX1_isBranch wsX1_isGroup := goodIn_r _ [4] (by decide +kernel) (by decide +kernel)
set_option maxRecDepth 20000 in
theorem gX1_isBranch_X1_isGroup : GoodIn wsX1_isBranch (va_wsS RX1 35 yX1_isGroup wsX1_isGroup) := goodIn_app (goodIn_of _ (by decide +kernel)) ggX1_isBranch_X1_isGroup
theorem dX1_isBranch_0 : decode cX1_isBranch 0 = .ok (.iload_n 0, 1) := by decide +kernel
theorem dX1_isBranch_1 : decode cX1_isBranch 1 = .ok (.invokestatic 35, 3) := by decide +kernel
theorem dX1_isBranch_4 : decode cX1_isBranch 4 = .ok (.ifCond .eq 18, 3) := by decide +kernel
theorem dX1_isBranch_7 : decode cX1_isBranch 7 = .ok (.iload_n 1, 1) := by decide +kernel
theorem dX1_isBranch_8 : decode cX1_isBranch 8 = .ok (.iconst (-1), 1) := by decide +kernel
theorem dX1_isBranch_9 : decode cX1_isBranch 9 = .ok (.if_icmp .lt 13, 3) := by decide +kernel
theorem dX1_isBranch_12 : decode cX1_isBranch 12 = .ok (.iload_n 1, 1) := by decide +kernel
theorem dX1_isBranch_13 : decode cX1_isBranch 13 = .ok (.bipush 16, 2) := by decide +kernel
theorem dX1_isBranch_15 : decode cX1_isBranch 15 = .ok (.if_icmp .ge 7, 3) := by decide +kernel
theorem dX1_isBranch_18 : decode cX1_isBranch 18 = .ok (.iconst 1, 1) := by decide +kernel
theorem dX1_isBranch_19 : decode cX1_isBranch 19 = .ok (.goto 4, 3) := by decide +kernel
theorem dX1_isBranch_22 : decode cX1_isBranch 22 = .ok (.iconst 0, 1) := by decide +kernel
theorem dX1_isBranch_23 : decode cX1_isBranch 23 = .ok (.ireturn, 1) := by decide +kernel
theorem dX1_tick_0 : decode cX1_tick 0 = .ok (.iload_n 1, 1) := by decide +kernel
theorem dX1_tick_1 : decode cX1_tick 1 = .ok (.iconst 1, 1) := by decide +kernel
theorem dX1_tick_2 : decode cX1_tick 2 = .ok (.if_icmp .lt 20, 3) := by decide +kernel
theorem dX1_tick_5 : decode cX1_tick 5 = .ok (.iload_n 1, 1) := by decide +kernel
theorem dX1_tick_6 : decode cX1_tick 6 = .ok (.bipush 100, 2) := by decide +kernel
theorem dX1_tick_8 : decode cX1_tick 8 = .ok (.if_icmp .gt 14, 3) := by decide +kernel
theorem dX1_tick_11 : decode cX1_tick 11 = .ok (.aload_n 0, 1) := by decide +kernel
theorem dX1_tick_12 : decode cX1_tick 12 = .ok (.getfield 39, 3) := by decide +kernel
theorem dX1_tick_15 : decode cX1_tick 15 = .ok (.iload_n 1, 1) := by decide +kernel
theorem dX1_tick_16 : decode cX1_tick 16 = .ok (.iadd, 1) := by decide +kernel
theorem dX1_tick_17 : decode cX1_tick 17 = .ok (.ldc 42, 2) := by decide +kernel
theorem dX1_tick_19 : decode cX1_tick 19 = .ok (.if_icmp .le 5, 3) := by decide +kernel
theorem dX1_tick_22 : decode cX1_tick 22 = .ok (.iconst (-1), 1) := by decide +kernel
theorem dX1_tick_23 : decode cX1_tick 23 = .ok (.ireturn, 1) := by decide +kernel
theorem dX1_tick_24 : decode cX1_tick 24 = .ok (.aload_n 0, 1) := by decide +kernel
theorem dX1_tick_25 : decode cX1_tick 25 = .ok (.dup, 1) := by decide +kernel
theorem dX1_tick_26 : decode cX1_tick 26 = .ok (.getfield 39, 3) := by decide +kernel
theorem dX1_tick_29 : decode cX1_tick 29 = .ok (.iload_n 1, 1) := by decide +kernel
theorem dX1_tick_30 : decode cX1_tick 30 = .ok (.iadd, 1) := by decide +kernel
theorem dX1_tick_31 : decode cX1_tick 31 = .ok (.putfield 39, 3) := by decide +kernel
theorem dX1_tick_34 : decode cX1_tick 34 = .ok (.aload_n 0, 1) := by decide +kernel
theorem dX1_tick_35 : decode cX1_tick 35 = .ok (.getfield 39, 3) := by decide +kernel
theorem dX1_tick_38 : decode cX1_tick 38 = .ok (.ireturn, 1) := by decide +kernel
theorem dX1_neighbours_0 : decode cX1_neighbours 0 = .ok (.iconst 0, 1) := by decide +kernel
theorem dX1_neighbours_1 : decode cX1_neighbours 1 = .ok (.istore_n 1, 1) := by decide +kernel
theorem dX1_neighbours_2 : decode cX1_neighbours 2 = .ok (.iconst 0, 1) := by decide +kernel
theorem dX1_neighbours_3 : decode cX1_neighbours 3 = .ok (.istore_n 2, 1) := by decide +kernel
theorem dX1_neighbours_4 : decode cX1_neighbours 4 = .ok (.iload_n 2, 1) := by decide +kernel
theorem dX1_neighbours_5 : decode cX1_neighbours 5 = .ok (.bipush 10, 2) := by decide +kernel
theorem dX1_neighbours_7 : decode cX1_neighbours 7 = .ok (.if_icmp .ge 41, 3) := by decide +kernel
theorem dX1_neighbours_10 : decode cX1_neighbours 10 = .ok (.aload_n 0, 1) := by decide +kernel
theorem dX1_neighbours_11 : decode cX1_neighbours 11 = .ok (.getfield 7, 3) := by decide +kernel
theorem dX1_neighbours_14 : decode cX1_neighbours 14 = .ok (.iload_n 2, 1) := by decide +kernel
theorem dX1_neighbours_15 : decode cX1_neighbours 15 = .ok (.iaload, 1) := by decide +kernel
theorem dX1_neighbours_16 : decode cX1_neighbours 16 = .ok (.iconst (-1), 1) := by decide +kernel
theorem dX1_neighbours_17 : decode cX1_neighbours 17 = .ok (.if_icmp .eq 25, 3) := by decide +kernel
theorem dX1_neighbours_20 : decode cX1_neighbours 20 = .ok (.aload_n 0, 1) := by decide +kernel
theorem dX1_neighbours_21 : decode cX1_neighbours 21 = .ok (.getfield 39, 3) := by decide +kernel
theorem dX1_neighbours_24 : decode cX1_neighbours 24 = .ok (.aload_n 0, 1) := by decide +kernel
theorem dX1_neighbours_25 : decode cX1_neighbours 25 = .ok (.getfield 7, 3) := by decide +kernel
theorem dX1_neighbours_28 : decode cX1_neighbours 28 = .ok (.iload_n 2, 1) := by decide +kernel
theorem dX1_neighbours_29 : decode cX1_neighbours 29 = .ok (.iaload, 1) := by decide +kernel
theorem dX1_neighbours_30 : decode cX1_neighbours 30 = .ok (.bipush 65, 2) := by decide +kernel
theorem dX1_neighbours_32 : decode cX1_neighbours 32 = .ok (.iadd, 1) := by decide +kernel
theorem dX1_neighbours_33 : decode cX1_neighbours 33 = .ok (.if_icmp .ge 9, 3) := by decide +kernel
theorem dX1_neighbours_36 : decode cX1_neighbours 36 = .ok (.iload_n 1, 1) := by decide +kernel
theorem dX1_neighbours_37 : decode cX1_neighbours 37 = .ok (.iconst 1, 1) := by decide +kernel
theorem dX1_neighbours_38 : decode cX1_neighbours 38 = .ok (.iload_n 2, 1) := by decide +kernel
theorem dX1_neighbours_39 : decode cX1_neighbours 39 = .ok (.ishl, 1) := by decide +kernel
theorem dX1_neighbours_40 : decode cX1_neighbours 40 = .ok (.ior, 1) := by decide +kernel
theorem dX1_neighbours_41 : decode cX1_neighbours 41 = .ok (.istore_n 1, 1) := by decide +kernel
theorem dX1_neighbours_42 : decode cX1_neighbours 42 = .ok (.iinc 2 1, 3) := by decide +kernel
theorem dX1_neighbours_45 : decode cX1_neighbours 45 = .ok (.goto (-41), 3) := by decide +kernel
theorem dX1_neighbours_48 : decode cX1_neighbours 48 = .ok (.iload_n 1, 1) := by decide +kernel
theorem dX1_neighbours_49 : decode cX1_neighbours 49 = .ok (.ireturn, 1) := by decide +kernel
set_option maxRecDepth 20000 in
theorem ggX1_isFirst_X1_neighbours : GoodIn wsX1_isFirst wsX1_neighbours := goodIn_r _ [6, 7, 8, 9, 10, 11, 12, 13, 14, 15, 16] (by decide +kernel) (by decide +kernel)
set_option maxRecDepth 20000 in
theorem gX1_isFirst_X1_neighbours : GoodIn wsX1_isFirst (wsV RX1 43 RX1 yX1_neighbours wsX1_neighbours) := goodIn_app (goodIn_of _ (by decide +kernel)) ggX1_isFirst_X1_neighbours
theorem dX1_isFirst_0 : decode cX1_isFirst 0 = .ok (.aload_n 0, 1) := by decide +kernel
theorem dX1_isFirst_1 : decode cX1_isFirst 1 = .ok (.invokevirtual 43, 3) := by decide +kernel
theorem dX1_isFirst_4 : decode cX1_isFirst 4 = .ok (.aload_n 0, 1) := by decide +kernel
theorem dX1_isFirst_5 : decode cX1_isFirst 5 = .ok (.getfield 28, 3) := by decide +kernel
theorem dX1_isFirst_8 : decode cX1_isFirst 8 = .ok (.ishr, 1) := by decide +kernel
theorem dX1_isFirst_9 : decode cX1_isFirst 9 = .ok (.ifCond .ne 7, 3) := by decide +kernel
theorem dX1_isFirst_12 : decode cX1_isFirst 12 = .ok (.iconst 1, 1) := by decide +kernel
theorem dX1_isFirst_13 : decode cX1_isFirst 13 = .ok (.goto 4, 3) := by decide +kernel
theorem dX1_isFirst_16 : decode cX1_isFirst 16 = .ok (.iconst 0, 1) := by decide +kernel
theorem dX1_isFirst_17 : decode cX1_isFirst 17 = .ok (.ireturn, 1) := by decide +kernel
set_option maxRecDepth 20000 in
theorem ggX1_isAsking_X1_neighbours : GoodIn wsX1_isAsking wsX1_neighbours := goodIn_r _ [6, 7, 8, 9, 10, 11, 12, 13, 14, 15, 16] (by decide +kernel) (by decide +kernel)
set_option maxRecDepth 20000 in
theorem gX1_isAsking_X1_neighbours : GoodIn wsX1_isAsking (wsV RX1 43 RX1 yX1_neighbours wsX1_neighbours) := goodIn_app (goodIn_of _ (by decide +kernel)) ggX1_isAsking_X1_neighbours
theorem dX1_isAsking_0 : decode cX1_isAsking 0 = .ok (.aload_n 0, 1) := by decide +kernel
theorem dX1_isAsking_1 : decode cX1_isAsking 1 = .ok (.invokevirtual 43, 3) := by decide +kernel
theorem dX1_isAsking_4 : decode cX1_isAsking 4 = .ok (.iconst 1, 1) := by decide +kernel
theorem dX1_isAsking_5 : decode cX1_isAsking 5 = .ok (.aload_n 0, 1) := by decide +kernel
theorem dX1_isAsking_6 : decode cX1_isAsking 6 = .ok (.getfield 28, 3) := by decide +kernel
theorem dX1_isAsking_9 : decode cX1_isAsking 9 = .ok (.ishl, 1) := by decide +kernel
theorem dX1_isAsking_10 : decode cX1_isAsking 10 = .ok (.irem, 1) := by decide +kernel
theorem dX1_isAsking_11 : decode cX1_isAsking 11 = .ok (.ifCond .ne 7, 3) := by decide +kernel
theorem dX1_isAsking_14 : decode cX1_isAsking 14 = .ok (.iconst 1, 1) := by decide +kernel
theorem dX1_isAsking_15 : decode cX1_isAsking 15 = .ok (.goto 4, 3) := by decide +kernel
theorem dX1_isAsking_18 : decode cX1_isAsking 18 = .ok (.iconst 0, 1) := by decide +kernel
theorem dX1_isAsking_19 : decode cX1_isAsking 19 = .ok (.ireturn, 1) := by decide +kernel
set_option maxRecDepth 20000 in
theorem ggX1_isCrowded_X1_neighbours : GoodIn wsX1_isCrowded wsX1_neighbours := goodIn_r _ [5, 6, 7, 8, 9, 10, 11, 12, 13, 14, 15] (by decide +kernel) (by decide +kernel)
set_option maxRecDepth 20000 in
theorem gX1_isCrowded_X1_neighbours : GoodIn wsX1_isCrowded (wsV RX1 43 RX1 yX1_neighbours wsX1_neighbours) := goodIn_app (goodIn_of _ (by decide +kernel)) ggX1_isCrowded_X1_neighbours
theorem dX1_isCrowded_0 : decode cX1_isCrowded 0 = .ok (.iconst 0, 1) := by decide +kernel
theorem dX1_isCrowded_1 : decode cX1_isCrowded 1 = .ok (.istore_n 1, 1) := by decide +kernel
theorem dX1_isCrowded_2 : decode cX1_isCrowded 2 = .ok (.aload_n 0, 1) := by decide +kernel
theorem dX1_isCrowded_3 : decode cX1_isCrowded 3 = .ok (.invokevirtual 43, 3) := by decide +kernel
theorem dX1_isCrowded_6 : decode cX1_isCrowded 6 = .ok (.istore_n 2, 1) := by decide +kernel
theorem dX1_isCrowded_7 : decode cX1_isCrowded 7 = .ok (.iload_n 2, 1) := by decide +kernel
theorem dX1_isCrowded_8 : decode cX1_isCrowded 8 = .ok (.ifCond .eq 16, 3) := by decide +kernel
theorem dX1_isCrowded_11 : decode cX1_isCrowded 11 = .ok (.iload_n 1, 1) := by decide +kernel
theorem dX1_isCrowded_12 : decode cX1_isCrowded 12 = .ok (.iload_n 2, 1) := by decide +kernel
theorem dX1_isCrowded_13 : decode cX1_isCrowded 13 = .ok (.iconst 2, 1) := by decide +kernel
theorem dX1_isCrowded_14 : decode cX1_isCrowded 14 = .ok (.irem, 1) := by decide +kernel
theorem dX1_isCrowded_15 : decode cX1_isCrowded 15 = .ok (.iadd, 1) := by decide +kernel
theorem dX1_isCrowded_16 : decode cX1_isCrowded 16 = .ok (.istore_n 1, 1) := by decide +kernel
theorem dX1_isCrowded_17 : decode cX1_isCrowded 17 = .ok (.iload_n 2, 1) := by decide +kernel
theorem dX1_isCrowded_18 : decode cX1_isCrowded 18 = .ok (.iconst 2, 1) := by decide +kernel
theorem dX1_isCrowded_19 : decode cX1_isCrowded 19 = .ok (.idiv, 1) := by decide +kernel
theorem dX1_isCrowded_20 : decode cX1_isCrowded 20 = .ok (.istore_n 2, 1) := by decide +kernel
theorem dX1_isCrowded_21 : decode cX1_isCrowded 21 = .ok (.goto (-14), 3) := by decide +kernel
theorem dX1_isCrowded_24 : decode cX1_isCrowded 24 = .ok (.iload_n 1, 1) := by decide +kernel
theorem dX1_isCrowded_25 : decode cX1_isCrowded 25 = .ok (.iconst 1, 1) := by decide +kernel
theorem dX1_isCrowded_26 : decode cX1_isCrowded 26 = .ok (.if_icmp .le 7, 3) := by decide +kernel
theorem dX1_isCrowded_29 : decode cX1_isCrowded 29 = .ok (.iconst 1, 1) := by decide +kernel
theorem dX1_isCrowded_30 : decode cX1_isCrowded 30 = .ok (.goto 4, 3) := by decide +kernel
theorem dX1_isCrowded_33 : decode cX1_isCrowded 33 = .ok (.iconst 0, 1) := by decide +kernel
theorem dX1_isCrowded_34 : decode cX1_isCrowded 34 = .ok (.ireturn, 1) := by decide +kernel
theorem dX1_hello_0 : decode cX1_hello 0 = .ok (.iload_n 1, 1) := by decide +kernel
theorem dX1_hello_1 : decode cX1_hello 1 = .ok (.ifCond .lt 17, 3) := by decide +kernel
theorem dX1_hello_4 : decode cX1_hello 4 = .ok (.iload_n 1, 1) := by decide +kernel
theorem dX1_hello_5 : decode cX1_hello 5 = .ok (.bipush 9, 2) := by decide +kernel
theorem dX1_hello_7 : decode cX1_hello 7 = .ok (.if_icmp .gt 11, 3) := by decide +kernel
theorem dX1_hello_10 : decode cX1_hello 10 = .ok (.iload_n 1, 1) := by decide +kernel
theorem dX1_hello_11 : decode cX1_hello 11 = .ok (.aload_n 0, 1) := by decide +kernel
theorem dX1_hello_12 : decode cX1_hello 12 = .ok (.getfield 28, 3) := by decide +kernel
theorem dX1_hello_15 : decode cX1_hello 15 = .ok (.if_icmp .ne 5, 3) := by decide +kernel
theorem dX1_hello_18 : decode cX1_hello 18 = .ok (.iconst 0, 1) := by decide +kernel
theorem dX1_hello_19 : decode cX1_hello 19 = .ok (.ireturn, 1) := by decide +kernel
theorem dX1_hello_20 : decode cX1_hello 20 = .ok (.aload_n 0, 1) := by decide +kernel
theorem dX1_hello_21 : decode cX1_hello 21 = .ok (.getfield 7, 3) := by decide +kernel
theorem dX1_hello_24 : decode cX1_hello 24 = .ok (.iload_n 1, 1) := by decide +kernel
theorem dX1_hello_25 : decode cX1_hello 25 = .ok (.aload_n 0, 1) := by decide +kernel
theorem dX1_hello_26 : decode cX1_hello 26 = .ok (.getfield 39, 3) := by decide +kernel
theorem dX1_hello_29 : decode cX1_hello 29 = .ok (.iastore, 1) := by decide +kernel
theorem dX1_hello_30 : decode cX1_hello 30 = .ok (.iconst 1, 1) := by decide +kernel
theorem dX1_hello_31 : decode cX1_hello 31 = .ok (.ireturn, 1) := by decide +kernel
theorem dX1_memberTill_0 : decode cX1_memberTill 0 = .ok (.aload_n 0, 1) := by decide +kernel
theorem dX1_memberTill_1 : decode cX1_memberTill 1 = .ok (.getfield 13, 3) := by decide +kernel
theorem dX1_memberTill_4 : decode cX1_memberTill 4 = .ok (.iload_n 1, 1) := by decide +kernel
theorem dX1_memberTill_5 : decode cX1_memberTill 5 = .ok (.iaload, 1) := by decide +kernel
theorem dX1_memberTill_6 : decode cX1_memberTill 6 = .ok (.iconst (-1), 1) := by decide +kernel
theorem dX1_memberTill_7 : decode cX1_memberTill 7 = .ok (.if_icmp .ne 5, 3) := by decide +kernel
theorem dX1_memberTill_10 : decode cX1_memberTill 10 = .ok (.iconst 0, 1) := by decide +kernel
theorem dX1_memberTill_11 : decode cX1_memberTill 11 = .ok (.ireturn, 1) := by decide +kernel
theorem dX1_memberTill_12 : decode cX1_memberTill 12 = .ok (.aload_n 0, 1) := by decide +kernel
theorem dX1_memberTill_13 : decode cX1_memberTill 13 = .ok (.getfield 13, 3) := by decide +kernel
theorem dX1_memberTill_16 : decode cX1_memberTill 16 = .ok (.iload_n 1, 1) := by decide +kernel
theorem dX1_memberTill_17 : decode cX1_memberTill 17 = .ok (.iaload, 1) := by decide +kernel
theorem dX1_memberTill_18 : decode cX1_memberTill 18 = .ok (.bipush 60, 2) := by decide +kernel
theorem dX1_memberTill_20 : decode cX1_memberTill 20 = .ok (.iadd, 1) := by decide +kernel
theorem dX1_memberTill_21 : decode cX1_memberTill 21 = .ok (.istore_n 2, 1) := by decide +kernel
theorem dX1_memberTill_22 : decode cX1_memberTill 22 = .ok (.aload_n 0, 1) := by decide +kernel
theorem dX1_memberTill_23 : decode cX1_memberTill 23 = .ok (.getfield 16, 3) := by decide +kernel
theorem dX1_memberTill_26 : decode cX1_memberTill 26 = .ok (.iload_n 1, 1) := by decide +kernel
theorem dX1_memberTill_27 : decode cX1_memberTill 27 = .ok (.iaload, 1) := by decide +kernel
theorem dX1_memberTill_28 : decode cX1_memberTill 28 = .ok (.iload_n 2, 1) := by decide +kernel
theorem dX1_memberTill_29 : decode cX1_memberTill 29 = .ok (.if_icmp .ge 12, 3) := by decide +kernel
theorem dX1_memberTill_32 : decode cX1_memberTill 32 = .ok (.aload_n 0, 1) := by decide +kernel
theorem dX1_memberTill_33 : decode cX1_memberTill 33 = .ok (.getfield 16, 3) := by decide +kernel
theorem dX1_memberTill_36 : decode cX1_memberTill 36 = .ok (.iload_n 1, 1) := by decide +kernel
theorem dX1_memberTill_37 : decode cX1_memberTill 37 = .ok (.iaload, 1) := by decide +kernel
theorem dX1_memberTill_38 : decode cX1_memberTill 38 = .ok (.goto 4, 3) := by decide +kernel
theorem dX1_memberTill_41 : decode cX1_memberTill 41 = .ok (.iload_n 2, 1) := by decide +kernel
theorem dX1_memberTill_42 : decode cX1_memberTill 42 = .ok (.istore_n 2, 1) := by decide +kernel
theorem dX1_memberTill_43 : decode cX1_memberTill 43 = .ok (.aload_n 0, 1) := by decide +kernel
theorem dX1_memberTill_44 : decode cX1_memberTill 44 = .ok (.getfield 39, 3) := by decide +kernel
theorem dX1_memberTill_47 : decode cX1_memberTill 47 = .ok (.iload_n 2, 1) := by decide +kernel
theorem dX1_memberTill_48 : decode cX1_memberTill 48 = .ok (.if_icmp .ge 7, 3) := by decide +kernel
theorem dX1_memberTill_51 : decode cX1_memberTill 51 = .ok (.iload_n 2, 1) := by decide +kernel
theorem dX1_memberTill_52 : decode cX1_memberTill 52 = .ok (.goto 4, 3) := by decide +kernel
theorem dX1_memberTill_55 : decode cX1_memberTill 55 = .ok (.iconst 0, 1) := by decide +kernel
theorem dX1_memberTill_56 : decode cX1_memberTill 56 = .ok (.ireturn, 1) := by decide +kernel
set_option maxRecDepth 20000 in
theorem ggX1_report_X1_isGroup : GoodIn wsX1_report wsX1_isGroup := goodIn_r _ [8] (by decide +kernel) (by decide +kernel)
set_option maxRecDepth 20000 in
theorem gX1_report_X1_isGroup : GoodIn wsX1_report (va_wsS RX1 35 yX1_isGroup wsX1_isGroup) := goodIn_app (goodIn_of _ (by decide +kernel)) ggX1_report_X1_isGroup
theorem dX1_report_0 : decode cX1_report 0 = .ok (.iload_n 1, 1) := by decide +kernel
theorem dX1_report_1 : decode cX1_report 1 = .ok (.invokestatic 35, 3) := by decide +kernel
theorem dX1_report_4 : decode cX1_report 4 = .ok (.ifCond .ne 5, 3) := by decide +kernel
theorem dX1_report_7 : decode cX1_report 7 = .ok (.iconst 0, 1) := by decide +kernel
theorem dX1_report_8 : decode cX1_report 8 = .ok (.ireturn, 1) := by decide +kernel
theorem dX1_report_9 : decode cX1_report 9 = .ok (.aload_n 0, 1) := by decide +kernel
theorem dX1_report_10 : decode cX1_report 10 = .ok (.getfield 13, 3) := by decide +kernel
theorem dX1_report_13 : decode cX1_report 13 = .ok (.iload_n 1, 1) := by decide +kernel
theorem dX1_report_14 : decode cX1_report 14 = .ok (.aload_n 0, 1) := by decide +kernel
theorem dX1_report_15 : decode cX1_report 15 = .ok (.getfield 39, 3) := by decide +kernel
theorem dX1_report_18 : decode cX1_report 18 = .ok (.iastore, 1) := by decide +kernel
theorem dX1_report_19 : decode cX1_report 19 = .ok (.aload_n 0, 1) := by decide +kernel
theorem dX1_report_20 : decode cX1_report 20 = .ok (.getfield 16, 3) := by decide +kernel
theorem dX1_report_23 : decode cX1_report 23 = .ok (.iload_n 1, 1) := by decide +kernel
theorem dX1_report_24 : decode cX1_report 24 = .ok (.ldc 47, 2) := by decide +kernel
theorem dX1_report_26 : decode cX1_report 26 = .ok (.iastore, 1) := by decide +kernel
theorem dX1_report_27 : decode cX1_report 27 = .ok (.iconst 1, 1) := by decide +kernel
theorem dX1_report_28 : decode cX1_report 28 = .ok (.ireturn, 1) := by decide +kernel
set_option maxRecDepth 20000 in
theorem ggX1_leave_X1_isGroup : GoodIn wsX1_leave wsX1_isGroup := goodIn_r _ [6] (by decide +kernel) (by decide +kernel)
set_option maxRecDepth 20000 in
theorem gX1_leave_X1_isGroup : GoodIn wsX1_leave (va_wsS RX1 35 yX1_isGroup wsX1_isGroup) := goodIn_app (goodIn_of _ (by decide +kernel)) ggX1_leave_X1_isGroup
set_option maxRecDepth 20000 in
theorem ggX1_leave_X1_memberTill : GoodIn wsX1_leave wsX1_memberTill := goodIn_r _ [10, 11, 1, 2, 22, 23, 24, 25, 26, 27, 28, 29] (by decide +kernel) (by decide +kernel)
set_option maxRecDepth 20000 in
theorem gX1_leave_X1_memberTill : GoodIn wsX1_leave (wsV RX1 48 RX1 yX1_memberTill wsX1_memberTill) := goodIn_app (goodIn_of _ (by decide +kernel)) ggX1_leave_X1_memberTill
set_option maxRecDepth 20000 in
theorem ggX1_leave_X1_isAsking : GoodIn wsX1_leave wsX1_isAsking := goodIn_r _ [15, 16, 17, 18, 19, 5, 20, 21, 2, 22, 23, 24, 25, 26, 27, 28, 29] (by decide +kernel) (by decide +kernel)
set_option maxRecDepth 20000 in
theorem gX1_leave_X1_isAsking : GoodIn wsX1_leave (wsV RX1 52 RX1 yX1_isAsking wsX1_isAsking) := goodIn_app (goodIn_of _ (by decide +kernel)) ggX1_leave_X1_isAsking
theorem dX1_leave_0 : decode cX1_leave 0 = .ok (.iload_n 1, 1) := by decide +kernel
theorem dX1_leave_1 : decode cX1_leave 1 = .ok (.invokestatic 35, 3) := by decide +kernel
theorem dX1_leave_4 : decode cX1_leave 4 = .ok (.ifCond .eq 18, 3) := by decide +kernel
theorem dX1_leave_7 : decode cX1_leave 7 = .ok (.aload_n 0, 1) := by decide +kernel
theorem dX1_leave_8 : decode cX1_leave 8 = .ok (.iload_n 1, 1) := by decide +kernel
theorem dX1_leave_9 : decode cX1_leave 9 = .ok (.invokevirtual 48, 3) := by decide +kernel
theorem dX1_leave_12 : decode cX1_leave 12 = .ok (.ifCond .eq 10, 3) := by decide +kernel
theorem dX1_leave_15 : decode cX1_leave 15 = .ok (.aload_n 0, 1) := by decide +kernel
theorem dX1_leave_16 : decode cX1_leave 16 = .ok (.invokevirtual 52, 3) := by decide +kernel
theorem dX1_leave_19 : decode cX1_leave 19 = .ok (.ifCond .ne 5, 3) := by decide +kernel
theorem dX1_leave_22 : decode cX1_leave 22 = .ok (.iconst 0, 1) := by decide +kernel
theorem dX1_leave_23 : decode cX1_leave 23 = .ok (.ireturn, 1) := by decide +kernel
theorem dX1_leave_24 : decode cX1_leave 24 = .ok (.aload_n 0, 1) := by decide +kernel
theorem dX1_leave_25 : decode cX1_leave 25 = .ok (.getfield 16, 3) := by decide +kernel
theorem dX1_leave_28 : decode cX1_leave 28 = .ok (.iload_n 1, 1) := by decide +kernel
theorem dX1_leave_29 : decode cX1_leave 29 = .ok (.aload_n 0, 1) := by decide +kernel
theorem dX1_leave_30 : decode cX1_leave 30 = .ok (.getfield 39, 3) := by decide +kernel
theorem dX1_leave_33 : decode cX1_leave 33 = .ok (.iconst 4, 1) := by decide +kernel
theorem dX1_leave_34 : decode cX1_leave 34 = .ok (.iadd, 1) := by decide +kernel
theorem dX1_leave_35 : decode cX1_leave 35 = .ok (.aload_n 0, 1) := by decide +kernel
theorem dX1_leave_36 : decode cX1_leave 36 = .ok (.getfield 16, 3) := by decide +kernel
theorem dX1_leave_39 : decode cX1_leave 39 = .ok (.iload_n 1, 1) := by decide +kernel
theorem dX1_leave_40 : decode cX1_leave 40 = .ok (.iaload, 1) := by decide +kernel
theorem dX1_leave_41 : decode cX1_leave 41 = .ok (.if_icmp .ge 12, 3) := by decide +kernel
theorem dX1_leave_44 : decode cX1_leave 44 = .ok (.aload_n 0, 1) := by decide +kernel
theorem dX1_leave_45 : decode cX1_leave 45 = .ok (.getfield 39, 3) := by decide +kernel
theorem dX1_leave_48 : decode cX1_leave 48 = .ok (.iconst 4, 1) := by decide +kernel
theorem dX1_leave_49 : decode cX1_leave 49 = .ok (.iadd, 1) := by decide +kernel
theorem dX1_leave_50 : decode cX1_leave 50 = .ok (.goto 9, 3) := by decide +kernel
theorem dX1_leave_53 : decode cX1_leave 53 = .ok (.aload_n 0, 1) := by decide +kernel
theorem dX1_leave_54 : decode cX1_leave 54 = .ok (.getfield 16, 3) := by decide +kernel
theorem dX1_leave_57 : decode cX1_leave 57 = .ok (.iload_n 1, 1) := by decide +kernel
theorem dX1_leave_58 : decode cX1_leave 58 = .ok (.iaload, 1) := by decide +kernel
theorem dX1_leave_59 : decode cX1_leave 59 = .ok (.iastore, 1) := by decide +kernel
theorem dX1_leave_60 : decode cX1_leave 60 = .ok (.iconst 1, 1) := by decide +kernel
theorem dX1_leave_61 : decode cX1_leave 61 = .ok (.ireturn, 1) := by decide +kernel
set_option maxRecDepth 20000 in
theorem ggX1_members_X1_isGroup : GoodIn wsX1_members wsX1_isGroup := goodIn_r _ [4] (by decide +kernel) (by decide +kernel)
set_option maxRecDepth 20000 in
theorem gX1_members_X1_isGroup : GoodIn wsX1_members (va_wsS RX1 35 yX1_isGroup wsX1_isGroup) := goodIn_app (goodIn_of _ (by decide +kernel)) ggX1_members_X1_isGroup
set_option maxRecDepth 20000 in
theorem ggX1_members_X1_memberTill : GoodIn wsX1_members wsX1_memberTill := goodIn_r _ [8, 9, 10, 11, 12, 13, 14, 15, 16, 17, 18, 19] (by decide +kernel) (by decide +kernel)
set_option maxRecDepth 20000 in
theorem gX1_members_X1_memberTill : GoodIn wsX1_members (wsV RX1 48 RX1 yX1_memberTill wsX1_memberTill) := goodIn_app (goodIn_of _ (by decide +kernel)) ggX1_members_X1_memberTill
theorem dX1_members_0 : decode cX1_members 0 = .ok (.iload_n 1, 1) := by decide +kernel
theorem dX1_members_1 : decode cX1_members 1 = .ok (.invokestatic 35, 3) := by decide +kernel
theorem dX1_members_4 : decode cX1_members 4 = .ok (.ifCond .eq 11, 3) := by decide +kernel
theorem dX1_members_7 : decode cX1_members 7 = .ok (.aload_n 0, 1) := by decide +kernel
theorem dX1_members_8 : decode cX1_members 8 = .ok (.iload_n 1, 1) := by decide +kernel
theorem dX1_members_9 : decode cX1_members 9 = .ok (.invokevirtual 48, 3) := by decide +kernel
theorem dX1_members_12 : decode cX1_members 12 = .ok (.goto 4, 3) := by decide +kernel
theorem dX1_members_15 : decode cX1_members 15 = .ok (.iconst (-1), 1) := by decide +kernel
theorem dX1_members_16 : decode cX1_members 16 = .ok (.ireturn, 1) := by decide +kernel
theorem dX1_till_0 : decode cX1_till 0 = .ok (.bipush 17, 2) := by decide +kernel
theorem dX1_till_2 : decode cX1_till 2 = .ok (.iload_n 1, 1) := by decide +kernel
theorem dX1_till_3 : decode cX1_till 3 = .ok (.imul, 1) := by decide +kernel
theorem dX1_till_4 : decode cX1_till 4 = .ok (.iload_n 2, 1) := by decide +kernel
theorem dX1_till_5 : decode cX1_till 5 = .ok (.iadd, 1) := by decide +kernel
theorem dX1_till_6 : decode cX1_till 6 = .ok (.iconst 1, 1) := by decide +kernel
theorem dX1_till_7 : decode cX1_till 7 = .ok (.iadd, 1) := by decide +kernel
theorem dX1_till_8 : decode cX1_till 8 = .ok (.istore_n 3, 1) := by decide +kernel
theorem dX1_till_9 : decode cX1_till 9 = .ok (.aload_n 0, 1) := by decide +kernel
theorem dX1_till_10 : decode cX1_till 10 = .ok (.getfield 19, 3) := by decide +kernel
theorem dX1_till_13 : decode cX1_till 13 = .ok (.iload_n 3, 1) := by decide +kernel
theorem dX1_till_14 : decode cX1_till 14 = .ok (.iaload, 1) := by decide +kernel
theorem dX1_till_15 : decode cX1_till 15 = .ok (.iconst (-1), 1) := by decide +kernel
theorem dX1_till_16 : decode cX1_till 16 = .ok (.if_icmp .ne 5, 3) := by decide +kernel
theorem dX1_till_19 : decode cX1_till 19 = .ok (.iconst 0, 1) := by decide +kernel
theorem dX1_till_20 : decode cX1_till 20 = .ok (.ireturn, 1) := by decide +kernel
theorem dX1_till_21 : decode cX1_till 21 = .ok (.aload_n 0, 1) := by decide +kernel
theorem dX1_till_22 : decode cX1_till 22 = .ok (.getfield 19, 3) := by decide +kernel
theorem dX1_till_25 : decode cX1_till 25 = .ok (.iload_n 3, 1) := by decide +kernel
theorem dX1_till_26 : decode cX1_till 26 = .ok (.iaload, 1) := by decide +kernel
theorem dX1_till_27 : decode cX1_till 27 = .ok (.bipush 70, 2) := by decide +kernel
theorem dX1_till_29 : decode cX1_till 29 = .ok (.iadd, 1) := by decide +kernel
theorem dX1_till_30 : decode cX1_till 30 = .ok (.istore 4, 2) := by decide +kernel
theorem dX1_till_32 : decode cX1_till 32 = .ok (.aload_n 0, 1) := by decide +kernel
theorem dX1_till_33 : decode cX1_till 33 = .ok (.getfield 22, 3) := by decide +kernel
theorem dX1_till_36 : decode cX1_till 36 = .ok (.iload_n 3, 1) := by decide +kernel
theorem dX1_till_37 : decode cX1_till 37 = .ok (.iaload, 1) := by decide +kernel
theorem dX1_till_38 : decode cX1_till 38 = .ok (.iload 4, 2) := by decide +kernel
theorem dX1_till_40 : decode cX1_till 40 = .ok (.if_icmp .ge 12, 3) := by decide +kernel
theorem dX1_till_43 : decode cX1_till 43 = .ok (.aload_n 0, 1) := by decide +kernel
theorem dX1_till_44 : decode cX1_till 44 = .ok (.getfield 22, 3) := by decide +kernel
theorem dX1_till_47 : decode cX1_till 47 = .ok (.iload_n 3, 1) := by decide +kernel
theorem dX1_till_48 : decode cX1_till 48 = .ok (.iaload, 1) := by decide +kernel
theorem dX1_till_49 : decode cX1_till 49 = .ok (.goto 5, 3) := by decide +kernel
theorem dX1_till_52 : decode cX1_till 52 = .ok (.iload 4, 2) := by decide +kernel
theorem dX1_till_54 : decode cX1_till 54 = .ok (.istore 4, 2) := by decide +kernel
theorem dX1_till_56 : decode cX1_till 56 = .ok (.aload_n 0, 1) := by decide +kernel
theorem dX1_till_57 : decode cX1_till 57 = .ok (.getfield 39, 3) := by decide +kernel
theorem dX1_till_60 : decode cX1_till 60 = .ok (.iload 4, 2) := by decide +kernel
theorem dX1_till_62 : decode cX1_till 62 = .ok (.if_icmp .ge 8, 3) := by decide +kernel
theorem dX1_till_65 : decode cX1_till 65 = .ok (.iload 4, 2) := by decide +kernel
theorem dX1_till_67 : decode cX1_till 67 = .ok (.goto 4, 3) := by decide +kernel
theorem dX1_till_70 : decode cX1_till 70 = .ok (.iconst 0, 1) := by decide +kernel
theorem dX1_till_71 : decode cX1_till 71 = .ok (.ireturn, 1) := by decide +kernel
set_option maxRecDepth 20000 in
theorem ggX1_join_X1_isBranch : GoodIn wsX1_join wsX1_isBranch := goodIn_r _ [9, 10, 11, 8, 12] (by decide +kernel) (by decide +kernel)
set_option maxRecDepth 20000 in
theorem gX1_join_X1_isBranch : GoodIn wsX1_join (va_wsS RX1 56 yX1_isBranch wsX1_isBranch) := goodIn_app (goodIn_of _ (by decide +kernel)) ggX1_join_X1_isBranch
set_option maxRecDepth 20000 in
theorem ggX1_join_X1_till : GoodIn wsX1_join wsX1_till := goodIn_r _ [16, 1, 3, 2, 26, 27, 28, 29, 30, 31, 32, 33] (by decide +kernel) (by decide +kernel)
set_option maxRecDepth 20000 in
theorem gX1_join_X1_till : GoodIn wsX1_join (wsV RX1 60 RX1 yX1_till wsX1_till) := goodIn_app (goodIn_of _ (by decide +kernel)) ggX1_join_X1_till
set_option maxRecDepth 20000 in
theorem ggX1_join_X1_isCrowded : GoodIn wsX1_join wsX1_isCrowded := goodIn_r _ [20, 21, 22, 23, 8, 24, 25, 2, 26, 27, 28, 29, 30, 31, 32, 33] (by decide +kernel) (by decide +kernel)
set_option maxRecDepth 20000 in
theorem gX1_join_X1_isCrowded : GoodIn wsX1_join (wsV RX1 64 RX1 yX1_isCrowded wsX1_isCrowded) := goodIn_app (goodIn_of _ (by decide +kernel)) ggX1_join_X1_isCrowded
theorem dX1_join_0 : decode cX1_join 0 = .ok (.iload_n 1, 1) := by decide +kernel
theorem dX1_join_1 : decode cX1_join 1 = .ok (.iload_n 2, 1) := by decide +kernel
theorem dX1_join_2 : decode cX1_join 2 = .ok (.invokestatic 56, 3) := by decide +kernel
theorem dX1_join_5 : decode cX1_join 5 = .ok (.ifCond .ne 5, 3) := by decide +kernel
theorem dX1_join_8 : decode cX1_join 8 = .ok (.iconst 0, 1) := by decide +kernel
theorem dX1_join_9 : decode cX1_join 9 = .ok (.ireturn, 1) := by decide +kernel
theorem dX1_join_10 : decode cX1_join 10 = .ok (.aload_n 0, 1) := by decide +kernel
theorem dX1_join_11 : decode cX1_join 11 = .ok (.iload_n 1, 1) := by decide +kernel
theorem dX1_join_12 : decode cX1_join 12 = .ok (.iload_n 2, 1) := by decide +kernel
theorem dX1_join_13 : decode cX1_join 13 = .ok (.invokevirtual 60, 3) := by decide +kernel
theorem dX1_join_16 : decode cX1_join 16 = .ok (.ifCond .le 7, 3) := by decide +kernel
theorem dX1_join_19 : decode cX1_join 19 = .ok (.iconst 1, 1) := by decide +kernel
theorem dX1_join_20 : decode cX1_join 20 = .ok (.goto 4, 3) := by decide +kernel
theorem dX1_join_23 : decode cX1_join 23 = .ok (.iconst 0, 1) := by decide +kernel
theorem dX1_join_24 : decode cX1_join 24 = .ok (.istore 4, 2) := by decide +kernel
theorem dX1_join_26 : decode cX1_join 26 = .ok (.aload_n 0, 1) := by decide +kernel
theorem dX1_join_27 : decode cX1_join 27 = .ok (.getfield 19, 3) := by decide +kernel
theorem dX1_join_30 : decode cX1_join 30 = .ok (.bipush 17, 2) := by decide +kernel
theorem dX1_join_32 : decode cX1_join 32 = .ok (.iload_n 1, 1) := by decide +kernel
theorem dX1_join_33 : decode cX1_join 33 = .ok (.imul, 1) := by decide +kernel
theorem dX1_join_34 : decode cX1_join 34 = .ok (.iload_n 2, 1) := by decide +kernel
theorem dX1_join_35 : decode cX1_join 35 = .ok (.iadd, 1) := by decide +kernel
theorem dX1_join_36 : decode cX1_join 36 = .ok (.iconst 1, 1) := by decide +kernel
theorem dX1_join_37 : decode cX1_join 37 = .ok (.iadd, 1) := by decide +kernel
theorem dX1_join_38 : decode cX1_join 38 = .ok (.aload_n 0, 1) := by decide +kernel
theorem dX1_join_39 : decode cX1_join 39 = .ok (.getfield 39, 3) := by decide +kernel
theorem dX1_join_42 : decode cX1_join 42 = .ok (.iastore, 1) := by decide +kernel
theorem dX1_join_43 : decode cX1_join 43 = .ok (.aload_n 0, 1) := by decide +kernel
theorem dX1_join_44 : decode cX1_join 44 = .ok (.getfield 22, 3) := by decide +kernel
theorem dX1_join_47 : decode cX1_join 47 = .ok (.bipush 17, 2) := by decide +kernel
theorem dX1_join_49 : decode cX1_join 49 = .ok (.iload_n 1, 1) := by decide +kernel
theorem dX1_join_50 : decode cX1_join 50 = .ok (.imul, 1) := by decide +kernel
theorem dX1_join_51 : decode cX1_join 51 = .ok (.iload_n 2, 1) := by decide +kernel
theorem dX1_join_52 : decode cX1_join 52 = .ok (.iadd, 1) := by decide +kernel
theorem dX1_join_53 : decode cX1_join 53 = .ok (.iconst 1, 1) := by decide +kernel
theorem dX1_join_54 : decode cX1_join 54 = .ok (.iadd, 1) := by decide +kernel
theorem dX1_join_55 : decode cX1_join 55 = .ok (.ldc 47, 2) := by decide +kernel
theorem dX1_join_57 : decode cX1_join 57 = .ok (.iastore, 1) := by decide +kernel
theorem dX1_join_58 : decode cX1_join 58 = .ok (.iload_n 2, 1) := by decide +kernel
theorem dX1_join_59 : decode cX1_join 59 = .ok (.iconst (-1), 1) := by decide +kernel
theorem dX1_join_60 : decode cX1_join 60 = .ok (.if_icmp .eq 5, 3) := by decide +kernel
theorem dX1_join_63 : decode cX1_join 63 = .ok (.iconst 1, 1) := by decide +kernel
theorem dX1_join_64 : decode cX1_join 64 = .ok (.ireturn, 1) := by decide +kernel
theorem dX1_join_65 : decode cX1_join 65 = .ok (.iconst 0, 1) := by decide +kernel
theorem dX1_join_66 : decode cX1_join 66 = .ok (.istore 5, 2) := by decide +kernel
theorem dX1_join_68 : decode cX1_join 68 = .ok (.iload 5, 2) := by decide +kernel
theorem dX1_join_70 : decode cX1_join 70 = .ok (.bipush 16, 2) := by decide +kernel
theorem dX1_join_72 : decode cX1_join 72 = .ok (.if_icmp .ge 112, 3) := by decide +kernel
theorem dX1_join_75 : decode cX1_join 75 = .ok (.iload_n 3, 1) := by decide +kernel
theorem dX1_join_76 : decode cX1_join 76 = .ok (.iload 5, 2) := by decide +kernel
theorem dX1_join_78 : decode cX1_join 78 = .ok (.ishr, 1) := by decide +kernel
theorem dX1_join_79 : decode cX1_join 79 = .ok (.iconst 1, 1) := by decide +kernel
theorem dX1_join_80 : decode cX1_join 80 = .ok (.iand, 1) := by decide +kernel
theorem dX1_join_81 : decode cX1_join 81 = .ok (.iconst 1, 1) := by decide +kernel
theorem dX1_join_82 : decode cX1_join 82 = .ok (.if_icmp .ne 7, 3) := by decide +kernel
theorem dX1_join_85 : decode cX1_join 85 = .ok (.iconst 1, 1) := by decide +kernel
theorem dX1_join_86 : decode cX1_join 86 = .ok (.goto 4, 3) := by decide +kernel
theorem dX1_join_89 : decode cX1_join 89 = .ok (.iconst 0, 1) := by decide +kernel
theorem dX1_join_90 : decode cX1_join 90 = .ok (.istore 6, 2) := by decide +kernel
theorem dX1_join_92 : decode cX1_join 92 = .ok (.iload 4, 2) := by decide +kernel
theorem dX1_join_94 : decode cX1_join 94 = .ok (.ifCond .eq 19, 3) := by decide +kernel
theorem dX1_join_97 : decode cX1_join 97 = .ok (.aload_n 0, 1) := by decide +kernel
theorem dX1_join_98 : decode cX1_join 98 = .ok (.getfield 25, 3) := by decide +kernel
theorem dX1_join_101 : decode cX1_join 101 = .ok (.bipush 16, 2) := by decide +kernel
theorem dX1_join_103 : decode cX1_join 103 = .ok (.iload_n 1, 1) := by decide +kernel
theorem dX1_join_104 : decode cX1_join 104 = .ok (.imul, 1) := by decide +kernel
theorem dX1_join_105 : decode cX1_join 105 = .ok (.iload 5, 2) := by decide +kernel
theorem dX1_join_107 : decode cX1_join 107 = .ok (.iadd, 1) := by decide +kernel
theorem dX1_join_108 : decode cX1_join 108 = .ok (.iaload, 1) := by decide +kernel
theorem dX1_join_109 : decode cX1_join 109 = .ok (.iconst (-1), 1) := by decide +kernel
theorem dX1_join_110 : decode cX1_join 110 = .ok (.if_icmp .ne 7, 3) := by decide +kernel
theorem dX1_join_113 : decode cX1_join 113 = .ok (.iconst 1, 1) := by decide +kernel
theorem dX1_join_114 : decode cX1_join 114 = .ok (.goto 4, 3) := by decide +kernel
theorem dX1_join_117 : decode cX1_join 117 = .ok (.iconst 0, 1) := by decide +kernel
theorem dX1_join_118 : decode cX1_join 118 = .ok (.istore 7, 2) := by decide +kernel
theorem dX1_join_120 : decode cX1_join 120 = .ok (.iload 6, 2) := by decide +kernel
theorem dX1_join_122 : decode cX1_join 122 = .ok (.ifCond .ne 19, 3) := by decide +kernel
theorem dX1_join_125 : decode cX1_join 125 = .ok (.aload_n 0, 1) := by decide +kernel
theorem dX1_join_126 : decode cX1_join 126 = .ok (.getfield 25, 3) := by decide +kernel
theorem dX1_join_129 : decode cX1_join 129 = .ok (.bipush 16, 2) := by decide +kernel
theorem dX1_join_131 : decode cX1_join 131 = .ok (.iload_n 1, 1) := by decide +kernel
theorem dX1_join_132 : decode cX1_join 132 = .ok (.imul, 1) := by decide +kernel
theorem dX1_join_133 : decode cX1_join 133 = .ok (.iload 5, 2) := by decide +kernel
theorem dX1_join_135 : decode cX1_join 135 = .ok (.iadd, 1) := by decide +kernel
theorem dX1_join_136 : decode cX1_join 136 = .ok (.iconst (-1), 1) := by decide +kernel
theorem dX1_join_137 : decode cX1_join 137 = .ok (.iastore, 1) := by decide +kernel
theorem dX1_join_138 : decode cX1_join 138 = .ok (.goto 40, 3) := by decide +kernel
theorem dX1_join_141 : decode cX1_join 141 = .ok (.iload 7, 2) := by decide +kernel
theorem dX1_join_143 : decode cX1_join 143 = .ok (.ifCond .eq 35, 3) := by decide +kernel
theorem dX1_join_146 : decode cX1_join 146 = .ok (.aload_n 0, 1) := by decide +kernel
theorem dX1_join_147 : decode cX1_join 147 = .ok (.getfield 25, 3) := by decide +kernel
theorem dX1_join_150 : decode cX1_join 150 = .ok (.bipush 16, 2) := by decide +kernel
theorem dX1_join_152 : decode cX1_join 152 = .ok (.iload_n 1, 1) := by decide +kernel
theorem dX1_join_153 : decode cX1_join 153 = .ok (.imul, 1) := by decide +kernel
theorem dX1_join_154 : decode cX1_join 154 = .ok (.iload 5, 2) := by decide +kernel
theorem dX1_join_156 : decode cX1_join 156 = .ok (.iadd, 1) := by decide +kernel
theorem dX1_join_157 : decode cX1_join 157 = .ok (.aload_n 0, 1) := by decide +kernel
theorem dX1_join_158 : decode cX1_join 158 = .ok (.invokevirtual 64, 3) := by decide +kernel
theorem dX1_join_161 : decode cX1_join 161 = .ok (.ifCond .eq 12, 3) := by decide +kernel
theorem dX1_join_164 : decode cX1_join 164 = .ok (.aload_n 0, 1) := by decide +kernel
theorem dX1_join_165 : decode cX1_join 165 = .ok (.getfield 39, 3) := by decide +kernel
theorem dX1_join_168 : decode cX1_join 168 = .ok (.iconst 3, 1) := by decide +kernel
theorem dX1_join_169 : decode cX1_join 169 = .ok (.iadd, 1) := by decide +kernel
theorem dX1_join_170 : decode cX1_join 170 = .ok (.goto 7, 3) := by decide +kernel
theorem dX1_join_173 : decode cX1_join 173 = .ok (.aload_n 0, 1) := by decide +kernel
theorem dX1_join_174 : decode cX1_join 174 = .ok (.getfield 39, 3) := by decide +kernel
theorem dX1_join_177 : decode cX1_join 177 = .ok (.iastore, 1) := by decide +kernel
theorem dX1_join_178 : decode cX1_join 178 = .ok (.iinc 5 1, 3) := by decide +kernel
theorem dX1_join_181 : decode cX1_join 181 = .ok (.goto (-113), 3) := by decide +kernel
theorem dX1_join_184 : decode cX1_join 184 = .ok (.iconst 1, 1) := by decide +kernel
theorem dX1_join_185 : decode cX1_join 185 = .ok (.ireturn, 1) := by decide +kernel
set_option maxRecDepth 20000 in
theorem ggX1_prune_X1_isBranch : GoodIn wsX1_prune wsX1_isBranch := goodIn_r _ [6, 7, 8, 5, 9] (by decide +kernel) (by decide +kernel)
set_option maxRecDepth 20000 in
theorem gX1_prune_X1_isBranch : GoodIn wsX1_prune (va_wsS RX1 56 yX1_isBranch wsX1_isBranch) := goodIn_app (goodIn_of _ (by decide +kernel)) ggX1_prune_X1_isBranch
set_option maxRecDepth 20000 in
theorem ggX1_prune_X1_till : GoodIn wsX1_prune wsX1_till := goodIn_r _ [13, 14, 2, 1, 24, 25, 26, 27, 28, 29, 30, 31] (by decide +kernel) (by decide +kernel)
set_option maxRecDepth 20000 in
theorem gX1_prune_X1_till : GoodIn wsX1_prune (wsV RX1 60 RX1 yX1_till wsX1_till) := goodIn_app (goodIn_of _ (by decide +kernel)) ggX1_prune_X1_till
set_option maxRecDepth 20000 in
theorem ggX1_prune_X1_isCrowded : GoodIn wsX1_prune wsX1_isCrowded := goodIn_r _ [18, 19, 20, 21, 5, 22, 23, 1, 24, 25, 26, 27, 28, 29, 30, 31] (by decide +kernel) (by decide +kernel)
set_option maxRecDepth 20000 in
theorem gX1_prune_X1_isCrowded : GoodIn wsX1_prune (wsV RX1 64 RX1 yX1_isCrowded wsX1_isCrowded) := goodIn_app (goodIn_of _ (by decide +kernel)) ggX1_prune_X1_isCrowded
theorem dX1_prune_0 : decode cX1_prune 0 = .ok (.iload_n 1, 1) := by decide +kernel
theorem dX1_prune_1 : decode cX1_prune 1 = .ok (.iload_n 2, 1) := by decide +kernel
theorem dX1_prune_2 : decode cX1_prune 2 = .ok (.invokestatic 56, 3) := by decide +kernel
theorem dX1_prune_5 : decode cX1_prune 5 = .ok (.ifCond .eq 12, 3) := by decide +kernel
theorem dX1_prune_8 : decode cX1_prune 8 = .ok (.aload_n 0, 1) := by decide +kernel
theorem dX1_prune_9 : decode cX1_prune 9 = .ok (.iload_n 1, 1) := by decide +kernel
theorem dX1_prune_10 : decode cX1_prune 10 = .ok (.iload_n 2, 1) := by decide +kernel
theorem dX1_prune_11 : decode cX1_prune 11 = .ok (.invokevirtual 60, 3) := by decide +kernel
theorem dX1_prune_14 : decode cX1_prune 14 = .ok (.ifCond .ne 5, 3) := by decide +kernel
theorem dX1_prune_17 : decode cX1_prune 17 = .ok (.iconst 0, 1) := by decide +kernel
theorem dX1_prune_18 : decode cX1_prune 18 = .ok (.ireturn, 1) := by decide +kernel
theorem dX1_prune_19 : decode cX1_prune 19 = .ok (.bipush 17, 2) := by decide +kernel
theorem dX1_prune_21 : decode cX1_prune 21 = .ok (.iload_n 1, 1) := by decide +kernel
theorem dX1_prune_22 : decode cX1_prune 22 = .ok (.imul, 1) := by decide +kernel
theorem dX1_prune_23 : decode cX1_prune 23 = .ok (.iload_n 2, 1) := by decide +kernel
theorem dX1_prune_24 : decode cX1_prune 24 = .ok (.iadd, 1) := by decide +kernel
theorem dX1_prune_25 : decode cX1_prune 25 = .ok (.iconst 1, 1) := by decide +kernel
theorem dX1_prune_26 : decode cX1_prune 26 = .ok (.iadd, 1) := by decide +kernel
theorem dX1_prune_27 : decode cX1_prune 27 = .ok (.istore_n 3, 1) := by decide +kernel
theorem dX1_prune_28 : decode cX1_prune 28 = .ok (.aload_n 0, 1) := by decide +kernel
theorem dX1_prune_29 : decode cX1_prune 29 = .ok (.invokevirtual 64, 3) := by decide +kernel
theorem dX1_prune_32 : decode cX1_prune 32 = .ok (.ifCond .eq 12, 3) := by decide +kernel
theorem dX1_prune_35 : decode cX1_prune 35 = .ok (.aload_n 0, 1) := by decide +kernel
theorem dX1_prune_36 : decode cX1_prune 36 = .ok (.getfield 39, 3) := by decide +kernel
theorem dX1_prune_39 : decode cX1_prune 39 = .ok (.iconst 3, 1) := by decide +kernel
theorem dX1_prune_40 : decode cX1_prune 40 = .ok (.iadd, 1) := by decide +kernel
theorem dX1_prune_41 : decode cX1_prune 41 = .ok (.goto 7, 3) := by decide +kernel
theorem dX1_prune_44 : decode cX1_prune 44 = .ok (.aload_n 0, 1) := by decide +kernel
theorem dX1_prune_45 : decode cX1_prune 45 = .ok (.getfield 39, 3) := by decide +kernel
theorem dX1_prune_48 : decode cX1_prune 48 = .ok (.istore 4, 2) := by decide +kernel
theorem dX1_prune_50 : decode cX1_prune 50 = .ok (.aload_n 0, 1) := by decide +kernel
theorem dX1_prune_51 : decode cX1_prune 51 = .ok (.getfield 22, 3) := by decide +kernel
theorem dX1_prune_54 : decode cX1_prune 54 = .ok (.iload_n 3, 1) := by decide +kernel
theorem dX1_prune_55 : decode cX1_prune 55 = .ok (.iload 4, 2) := by decide +kernel
theorem dX1_prune_57 : decode cX1_prune 57 = .ok (.aload_n 0, 1) := by decide +kernel
theorem dX1_prune_58 : decode cX1_prune 58 = .ok (.getfield 22, 3) := by decide +kernel
theorem dX1_prune_61 : decode cX1_prune 61 = .ok (.iload_n 3, 1) := by decide +kernel
theorem dX1_prune_62 : decode cX1_prune 62 = .ok (.iaload, 1) := by decide +kernel
theorem dX1_prune_63 : decode cX1_prune 63 = .ok (.if_icmp .ge 8, 3) := by decide +kernel
theorem dX1_prune_66 : decode cX1_prune 66 = .ok (.iload 4, 2) := by decide +kernel
theorem dX1_prune_68 : decode cX1_prune 68 = .ok (.goto 9, 3) := by decide +kernel
theorem dX1_prune_71 : decode cX1_prune 71 = .ok (.aload_n 0, 1) := by decide +kernel
theorem dX1_prune_72 : decode cX1_prune 72 = .ok (.getfield 22, 3) := by decide +kernel
theorem dX1_prune_75 : decode cX1_prune 75 = .ok (.iload_n 3, 1) := by decide +kernel
theorem dX1_prune_76 : decode cX1_prune 76 = .ok (.iaload, 1) := by decide +kernel
theorem dX1_prune_77 : decode cX1_prune 77 = .ok (.iastore, 1) := by decide +kernel
theorem dX1_prune_78 : decode cX1_prune 78 = .ok (.iconst 1, 1) := by decide +kernel
theorem dX1_prune_79 : decode cX1_prune 79 = .ok (.ireturn, 1) := by decide +kernel
set_option maxRecDepth 20000 in
theorem ggX1_forget_X1_forgetAll : GoodIn wsX1_forget wsX1_forgetAll := goodIn_r _ [5, 6, 7, 8, 9, 10, 11, 12, 13, 14, 15, 16, 17] (by decide +kernel) (by decide +kernel)
set_option maxRecDepth 20000 in
theorem gX1_forget_X1_forgetAll : GoodIn wsX1_forget (wsV RX1 32 RX1 yX1_forgetAll wsX1_forgetAll) := goodIn_app (goodIn_of _ (by decide +kernel)) ggX1_forget_X1_forgetAll
theorem dX1_forget_0 : decode cX1_forget 0 = .ok (.aload_n 0, 1) := by decide +kernel
theorem dX1_forget_1 : decode cX1_forget 1 = .ok (.invokevirtual 32, 3) := by decide +kernel
theorem dX1_forget_4 : decode cX1_forget 4 = .ok (.return_, 1) := by decide +kernel
set_option maxRecDepth 20000 in
theorem ggX1_joined_X1_isBranch : GoodIn wsX1_joined wsX1_isBranch := goodIn_r _ [4, 5, 6, 3, 7] (by decide +kernel) (by decide +kernel)
set_option maxRecDepth 20000 in
theorem gX1_joined_X1_isBranch : GoodIn wsX1_joined (va_wsS RX1 56 yX1_isBranch wsX1_isBranch) := goodIn_app (goodIn_of _ (by decide +kernel)) ggX1_joined_X1_isBranch
set_option maxRecDepth 20000 in
theorem ggX1_joined_X1_till : GoodIn wsX1_joined wsX1_till := goodIn_r _ [11, 12, 13, 14, 15, 16, 17, 18, 19, 20, 21, 22] (by decide +kernel) (by decide +kernel)
set_option maxRecDepth 20000 in
theorem gX1_joined_X1_till : GoodIn wsX1_joined (wsV RX1 60 RX1 yX1_till wsX1_till) := goodIn_app (goodIn_of _ (by decide +kernel)) ggX1_joined_X1_till
theorem dX1_joined_0 : decode cX1_joined 0 = .ok (.iload_n 1, 1) := by decide +kernel
theorem dX1_joined_1 : decode cX1_joined 1 = .ok (.iload_n 2, 1) := by decide +kernel
theorem dX1_joined_2 : decode cX1_joined 2 = .ok (.invokestatic 56, 3) := by decide +kernel
theorem dX1_joined_5 : decode cX1_joined 5 = .ok (.ifCond .eq 12, 3) := by decide +kernel
theorem dX1_joined_8 : decode cX1_joined 8 = .ok (.aload_n 0, 1) := by decide +kernel
theorem dX1_joined_9 : decode cX1_joined 9 = .ok (.iload_n 1, 1) := by decide +kernel
theorem dX1_joined_10 : decode cX1_joined 10 = .ok (.iload_n 2, 1) := by decide +kernel
theorem dX1_joined_11 : decode cX1_joined 11 = .ok (.invokevirtual 60, 3) := by decide +kernel
theorem dX1_joined_14 : decode cX1_joined 14 = .ok (.goto 4, 3) := by decide +kernel
theorem dX1_joined_17 : decode cX1_joined 17 = .ok (.iconst (-1), 1) := by decide +kernel
theorem dX1_joined_18 : decode cX1_joined 18 = .ok (.ireturn, 1) := by decide +kernel
set_option maxRecDepth 20000 in
theorem ggX1_cut_X1_isBranch : GoodIn wsX1_cut wsX1_isBranch := goodIn_r _ [5, 6, 7, 4, 8] (by decide +kernel) (by decide +kernel)
set_option maxRecDepth 20000 in
theorem gX1_cut_X1_isBranch : GoodIn wsX1_cut (va_wsS RX1 56 yX1_isBranch wsX1_isBranch) := goodIn_app (goodIn_of _ (by decide +kernel)) ggX1_cut_X1_isBranch
set_option maxRecDepth 20000 in
theorem ggX1_cut_X1_till : GoodIn wsX1_cut wsX1_till := goodIn_r _ [12, 13, 14, 15, 16, 17, 18, 19, 20, 21, 22, 23] (by decide +kernel) (by decide +kernel)
set_option maxRecDepth 20000 in
theorem gX1_cut_X1_till : GoodIn wsX1_cut (wsV RX1 60 RX1 yX1_till wsX1_till) := goodIn_app (goodIn_of _ (by decide +kernel)) ggX1_cut_X1_till
theorem dX1_cut_0 : decode cX1_cut 0 = .ok (.iload_n 1, 1) := by decide +kernel
theorem dX1_cut_1 : decode cX1_cut 1 = .ok (.iload_n 2, 1) := by decide +kernel
theorem dX1_cut_2 : decode cX1_cut 2 = .ok (.invokestatic 56, 3) := by decide +kernel
theorem dX1_cut_5 : decode cX1_cut 5 = .ok (.ifCond .eq 8, 3) := by decide +kernel
theorem dX1_cut_8 : decode cX1_cut 8 = .ok (.iload_n 2, 1) := by decide +kernel
theorem dX1_cut_9 : decode cX1_cut 9 = .ok (.iconst (-1), 1) := by decide +kernel
theorem dX1_cut_10 : decode cX1_cut 10 = .ok (.if_icmp .ne 5, 3) := by decide +kernel
theorem dX1_cut_13 : decode cX1_cut 13 = .ok (.iconst (-1), 1) := by decide +kernel
theorem dX1_cut_14 : decode cX1_cut 14 = .ok (.ireturn, 1) := by decide +kernel
theorem dX1_cut_15 : decode cX1_cut 15 = .ok (.aload_n 0, 1) := by decide +kernel
theorem dX1_cut_16 : decode cX1_cut 16 = .ok (.iload_n 1, 1) := by decide +kernel
theorem dX1_cut_17 : decode cX1_cut 17 = .ok (.iconst (-1), 1) := by decide +kernel
theorem dX1_cut_18 : decode cX1_cut 18 = .ok (.invokevirtual 60, 3) := by decide +kernel
theorem dX1_cut_21 : decode cX1_cut 21 = .ok (.ifCond .eq 18, 3) := by decide +kernel
theorem dX1_cut_24 : decode cX1_cut 24 = .ok (.aload_n 0, 1) := by decide +kernel
theorem dX1_cut_25 : decode cX1_cut 25 = .ok (.getfield 25, 3) := by decide +kernel
theorem dX1_cut_28 : decode cX1_cut 28 = .ok (.bipush 16, 2) := by decide +kernel
theorem dX1_cut_30 : decode cX1_cut 30 = .ok (.iload_n 1, 1) := by decide +kernel
theorem dX1_cut_31 : decode cX1_cut 31 = .ok (.imul, 1) := by decide +kernel
theorem dX1_cut_32 : decode cX1_cut 32 = .ok (.iload_n 2, 1) := by decide +kernel
theorem dX1_cut_33 : decode cX1_cut 33 = .ok (.iadd, 1) := by decide +kernel
theorem dX1_cut_34 : decode cX1_cut 34 = .ok (.iaload, 1) := by decide +kernel
theorem dX1_cut_35 : decode cX1_cut 35 = .ok (.iconst (-1), 1) := by decide +kernel
theorem dX1_cut_36 : decode cX1_cut 36 = .ok (.if_icmp .ne 7, 3) := by decide +kernel
theorem dX1_cut_39 : decode cX1_cut 39 = .ok (.iconst 0, 1) := by decide +kernel
theorem dX1_cut_40 : decode cX1_cut 40 = .ok (.goto 14, 3) := by decide +kernel
theorem dX1_cut_43 : decode cX1_cut 43 = .ok (.aload_n 0, 1) := by decide +kernel
theorem dX1_cut_44 : decode cX1_cut 44 = .ok (.getfield 25, 3) := by decide +kernel
theorem dX1_cut_47 : decode cX1_cut 47 = .ok (.bipush 16, 2) := by decide +kernel
theorem dX1_cut_49 : decode cX1_cut 49 = .ok (.iload_n 1, 1) := by decide +kernel
theorem dX1_cut_50 : decode cX1_cut 50 = .ok (.imul, 1) := by decide +kernel
theorem dX1_cut_51 : decode cX1_cut 51 = .ok (.iload_n 2, 1) := by decide +kernel
theorem dX1_cut_52 : decode cX1_cut 52 = .ok (.iadd, 1) := by decide +kernel
theorem dX1_cut_53 : decode cX1_cut 53 = .ok (.iaload, 1) := by decide +kernel
theorem dX1_cut_54 : decode cX1_cut 54 = .ok (.ireturn, 1) := by decide +kernel
theorem dX1_isCutOff_0 : decode cX1_isCutOff 0 = .ok (.aload_n 0, 1) := by decide +kernel
theorem dX1_isCutOff_1 : decode cX1_isCutOff 1 = .ok (.getfield 25, 3) := by decide +kernel
theorem dX1_isCutOff_4 : decode cX1_isCutOff 4 = .ok (.bipush 16, 2) := by decide +kernel
theorem dX1_isCutOff_6 : decode cX1_isCutOff 6 = .ok (.iload_n 1, 1) := by decide +kernel
theorem dX1_isCutOff_7 : decode cX1_isCutOff 7 = .ok (.imul, 1) := by decide +kernel
theorem dX1_isCutOff_8 : decode cX1_isCutOff 8 = .ok (.iload_n 2, 1) := by decide +kernel
theorem dX1_isCutOff_9 : decode cX1_isCutOff 9 = .ok (.iadd, 1) := by decide +kernel
theorem dX1_isCutOff_10 : decode cX1_isCutOff 10 = .ok (.iaload, 1) := by decide +kernel
theorem dX1_isCutOff_11 : decode cX1_isCutOff 11 = .ok (.iconst (-1), 1) := by decide +kernel
theorem dX1_isCutOff_12 : decode cX1_isCutOff 12 = .ok (.if_icmp .eq 25, 3) := by decide +kernel
theorem dX1_isCutOff_15 : decode cX1_isCutOff 15 = .ok (.aload_n 0, 1) := by decide +kernel
theorem dX1_isCutOff_16 : decode cX1_isCutOff 16 = .ok (.getfield 39, 3) := by decide +kernel
theorem dX1_isCutOff_19 : decode cX1_isCutOff 19 = .ok (.aload_n 0, 1) := by decide +kernel
theorem dX1_isCutOff_20 : decode cX1_isCutOff 20 = .ok (.getfield 25, 3) := by decide +kernel
theorem dX1_isCutOff_23 : decode cX1_isCutOff 23 = .ok (.bipush 16, 2) := by decide +kernel
theorem dX1_isCutOff_25 : decode cX1_isCutOff 25 = .ok (.iload_n 1, 1) := by decide +kernel
theorem dX1_isCutOff_26 : decode cX1_isCutOff 26 = .ok (.imul, 1) := by decide +kernel
theorem dX1_isCutOff_27 : decode cX1_isCutOff 27 = .ok (.iload_n 2, 1) := by decide +kernel
theorem dX1_isCutOff_28 : decode cX1_isCutOff 28 = .ok (.iadd, 1) := by decide +kernel
theorem dX1_isCutOff_29 : decode cX1_isCutOff 29 = .ok (.iaload, 1) := by decide +kernel
theorem dX1_isCutOff_30 : decode cX1_isCutOff 30 = .ok (.if_icmp .lt 7, 3) := by decide +kernel
theorem dX1_isCutOff_33 : decode cX1_isCutOff 33 = .ok (.iconst 1, 1) := by decide +kernel
theorem dX1_isCutOff_34 : decode cX1_isCutOff 34 = .ok (.goto 4, 3) := by decide +kernel
theorem dX1_isCutOff_37 : decode cX1_isCutOff 37 = .ok (.iconst 0, 1) := by decide +kernel
theorem dX1_isCutOff_38 : decode cX1_isCutOff 38 = .ok (.ireturn, 1) := by decide +kernel
set_option maxRecDepth 20000 in
theorem ggX1_goes_X1_isGroup : GoodIn wsX1_goes wsX1_isGroup := goodIn_r _ [4] (by decide +kernel) (by decide +kernel)
set_option maxRecDepth 20000 in
theorem gX1_goes_X1_isGroup : GoodIn wsX1_goes (va_wsS RX1 35 yX1_isGroup wsX1_isGroup) := goodIn_app (goodIn_of _ (by decide +kernel)) ggX1_goes_X1_isGroup
set_option maxRecDepth 20000 in
theorem ggX1_goes_X1_memberTill : GoodIn wsX1_goes wsX1_memberTill := goodIn_r _ [8, 9, 10, 11, 33, 34, 35, 36, 37, 38, 39, 40] (by decide +kernel) (by decide +kernel)
set_option maxRecDepth 20000 in
theorem gX1_goes_X1_memberTill : GoodIn wsX1_goes (wsV RX1 48 RX1 yX1_memberTill wsX1_memberTill) := goodIn_app (goodIn_of _ (by decide +kernel)) ggX1_goes_X1_memberTill
set_option maxRecDepth 20000 in
theorem ggX1_goes_X1_isFirst : GoodIn wsX1_goes wsX1_isFirst := goodIn_r _ [15, 16, 17, 18, 19, 3, 20, 21, 11, 33, 34, 35, 36, 37, 38, 39, 40] (by decide +kernel) (by decide +kernel)
set_option maxRecDepth 20000 in
theorem gX1_goes_X1_isFirst : GoodIn wsX1_goes (wsV RX1 67 RX1 yX1_isFirst wsX1_isFirst) := goodIn_app (goodIn_of _ (by decide +kernel)) ggX1_goes_X1_isFirst
set_option maxRecDepth 20000 in
theorem ggX1_goes_X1_till : GoodIn wsX1_goes wsX1_till := goodIn_r _ [25, 26, 27, 11, 33, 34, 35, 36, 37, 38, 39, 40] (by decide +kernel) (by decide +kernel)
set_option maxRecDepth 20000 in
theorem gX1_goes_X1_till : GoodIn wsX1_goes (wsV RX1 60 RX1 yX1_till wsX1_till) := goodIn_app (goodIn_of _ (by decide +kernel)) ggX1_goes_X1_till
set_option maxRecDepth 20000 in
theorem ggX1_goes_X1_isCutOff : GoodIn wsX1_goes wsX1_isCutOff := goodIn_r _ [31, 32, 11, 33, 34, 35, 36, 37, 38, 39, 40] (by decide +kernel) (by decide +kernel)
set_option maxRecDepth 20000 in
theorem gX1_goes_X1_isCutOff : GoodIn wsX1_goes (wsV RX1 70 RX1 yX1_isCutOff wsX1_isCutOff) := goodIn_app (goodIn_of _ (by decide +kernel)) ggX1_goes_X1_isCutOff
theorem dX1_goes_0 : decode cX1_goes 0 = .ok (.iload_n 1, 1) := by decide +kernel
theorem dX1_goes_1 : decode cX1_goes 1 = .ok (.invokestatic 35, 3) := by decide +kernel
theorem dX1_goes_4 : decode cX1_goes 4 = .ok (.ifCond .ne 5, 3) := by decide +kernel
theorem dX1_goes_7 : decode cX1_goes 7 = .ok (.iconst (-1), 1) := by decide +kernel
theorem dX1_goes_8 : decode cX1_goes 8 = .ok (.ireturn, 1) := by decide +kernel
theorem dX1_goes_9 : decode cX1_goes 9 = .ok (.aload_n 0, 1) := by decide +kernel
theorem dX1_goes_10 : decode cX1_goes 10 = .ok (.iload_n 1, 1) := by decide +kernel
theorem dX1_goes_11 : decode cX1_goes 11 = .ok (.invokevirtual 48, 3) := by decide +kernel
theorem dX1_goes_14 : decode cX1_goes 14 = .ok (.ifCond .le 14, 3) := by decide +kernel
theorem dX1_goes_17 : decode cX1_goes 17 = .ok (.aload_n 0, 1) := by decide +kernel
theorem dX1_goes_18 : decode cX1_goes 18 = .ok (.invokevirtual 67, 3) := by decide +kernel
theorem dX1_goes_21 : decode cX1_goes 21 = .ok (.ifCond .eq 7, 3) := by decide +kernel
theorem dX1_goes_24 : decode cX1_goes 24 = .ok (.iconst 1, 1) := by decide +kernel
theorem dX1_goes_25 : decode cX1_goes 25 = .ok (.goto 4, 3) := by decide +kernel
theorem dX1_goes_28 : decode cX1_goes 28 = .ok (.iconst 0, 1) := by decide +kernel
theorem dX1_goes_29 : decode cX1_goes 29 = .ok (.istore_n 2, 1) := by decide +kernel
theorem dX1_goes_30 : decode cX1_goes 30 = .ok (.iconst 0, 1) := by decide +kernel
theorem dX1_goes_31 : decode cX1_goes 31 = .ok (.istore_n 3, 1) := by decide +kernel
theorem dX1_goes_32 : decode cX1_goes 32 = .ok (.iconst 0, 1) := by decide +kernel
theorem dX1_goes_33 : decode cX1_goes 33 = .ok (.istore 4, 2) := by decide +kernel
theorem dX1_goes_35 : decode cX1_goes 35 = .ok (.iload 4, 2) := by decide +kernel
theorem dX1_goes_37 : decode cX1_goes 37 = .ok (.bipush 16, 2) := by decide +kernel
theorem dX1_goes_39 : decode cX1_goes 39 = .ok (.if_icmp .ge 61, 3) := by decide +kernel
theorem dX1_goes_42 : decode cX1_goes 42 = .ok (.iload_n 2, 1) := by decide +kernel
theorem dX1_goes_43 : decode cX1_goes 43 = .ok (.ifCond .ne 32, 3) := by decide +kernel
theorem dX1_goes_46 : decode cX1_goes 46 = .ok (.aload_n 0, 1) := by decide +kernel
theorem dX1_goes_47 : decode cX1_goes 47 = .ok (.iload_n 1, 1) := by decide +kernel
theorem dX1_goes_48 : decode cX1_goes 48 = .ok (.iload 4, 2) := by decide +kernel
theorem dX1_goes_50 : decode cX1_goes 50 = .ok (.invokevirtual 60, 3) := by decide +kernel
theorem dX1_goes_53 : decode cX1_goes 53 = .ok (.ifCond .gt 22, 3) := by decide +kernel
theorem dX1_goes_56 : decode cX1_goes 56 = .ok (.aload_n 0, 1) := by decide +kernel
theorem dX1_goes_57 : decode cX1_goes 57 = .ok (.iload_n 1, 1) := by decide +kernel
theorem dX1_goes_58 : decode cX1_goes 58 = .ok (.iconst (-1), 1) := by decide +kernel
theorem dX1_goes_59 : decode cX1_goes 59 = .ok (.invokevirtual 60, 3) := by decide +kernel
theorem dX1_goes_62 : decode cX1_goes 62 = .ok (.ifCond .le 17, 3) := by decide +kernel
theorem dX1_goes_65 : decode cX1_goes 65 = .ok (.aload_n 0, 1) := by decide +kernel
theorem dX1_goes_66 : decode cX1_goes 66 = .ok (.iload_n 1, 1) := by decide +kernel
theorem dX1_goes_67 : decode cX1_goes 67 = .ok (.iload 4, 2) := by decide +kernel
theorem dX1_goes_69 : decode cX1_goes 69 = .ok (.invokevirtual 70, 3) := by decide +kernel
theorem dX1_goes_72 : decode cX1_goes 72 = .ok (.ifCond .ne 7, 3) := by decide +kernel
theorem dX1_goes_75 : decode cX1_goes 75 = .ok (.iconst 1, 1) := by decide +kernel
theorem dX1_goes_76 : decode cX1_goes 76 = .ok (.goto 4, 3) := by decide +kernel
theorem dX1_goes_79 : decode cX1_goes 79 = .ok (.iconst 0, 1) := by decide +kernel
theorem dX1_goes_80 : decode cX1_goes 80 = .ok (.istore 5, 2) := by decide +kernel
theorem dX1_goes_82 : decode cX1_goes 82 = .ok (.iload 5, 2) := by decide +kernel
theorem dX1_goes_84 : decode cX1_goes 84 = .ok (.ifCond .eq 10, 3) := by decide +kernel
theorem dX1_goes_87 : decode cX1_goes 87 = .ok (.iload_n 3, 1) := by decide +kernel
theorem dX1_goes_88 : decode cX1_goes 88 = .ok (.iconst 1, 1) := by decide +kernel
theorem dX1_goes_89 : decode cX1_goes 89 = .ok (.iload 4, 2) := by decide +kernel
theorem dX1_goes_91 : decode cX1_goes 91 = .ok (.ishl, 1) := by decide +kernel
theorem dX1_goes_92 : decode cX1_goes 92 = .ok (.ior, 1) := by decide +kernel
theorem dX1_goes_93 : decode cX1_goes 93 = .ok (.istore_n 3, 1) := by decide +kernel
theorem dX1_goes_94 : decode cX1_goes 94 = .ok (.iinc 4 1, 3) := by decide +kernel
theorem dX1_goes_97 : decode cX1_goes 97 = .ok (.goto (-62), 3) := by decide +kernel
theorem dX1_goes_100 : decode cX1_goes 100 = .ok (.iload_n 3, 1) := by decide +kernel
theorem dX1_goes_101 : decode cX1_goes 101 = .ok (.ireturn, 1) := by decide +kernel
set_option maxRecDepth 20000 in
theorem ggX1_look_X1_neighbours : GoodIn wsX1_look wsX1_neighbours := goodIn_r _ [7, 8, 1, 53, 54, 55, 56, 57, 58, 59, 60] (by decide +kernel) (by decide +kernel)
set_option maxRecDepth 20000 in
theorem gX1_look_X1_neighbours : GoodIn wsX1_look (wsV RX1 43 RX1 yX1_neighbours wsX1_neighbours) := goodIn_app (goodIn_of _ (by decide +kernel)) ggX1_look_X1_neighbours
set_option maxRecDepth 20000 in
theorem ggX1_look_X1_isFirst : GoodIn wsX1_look wsX1_isFirst := goodIn_r _ [12, 2, 3, 4, 5, 6, 7, 8, 1, 53, 54, 55, 56, 57, 58, 59, 60] (by decide +kernel) (by decide +kernel)
set_option maxRecDepth 20000 in
theorem gX1_look_X1_isFirst : GoodIn wsX1_look (wsV RX1 67 RX1 yX1_isFirst wsX1_isFirst) := goodIn_app (goodIn_of _ (by decide +kernel)) ggX1_look_X1_isFirst
set_option maxRecDepth 20000 in
theorem ggX1_look_X1_isAsking : GoodIn wsX1_look wsX1_isAsking := goodIn_r _ [16, 2, 3, 4, 5, 6, 7, 8, 1, 53, 54, 55, 56, 57, 58, 59, 60] (by decide +kernel) (by decide +kernel)
set_option maxRecDepth 20000 in
theorem gX1_look_X1_isAsking : GoodIn wsX1_look (wsV RX1 52 RX1 yX1_isAsking wsX1_isAsking) := goodIn_app (goodIn_of _ (by decide +kernel)) ggX1_look_X1_isAsking
set_option maxRecDepth 20000 in
theorem ggX1_look_X1_isCrowded : GoodIn wsX1_look wsX1_isCrowded := goodIn_r _ [20, 3, 4, 5, 6, 7, 8, 1, 53, 54, 55, 56, 57, 58, 59, 60] (by decide +kernel) (by decide +kernel)
set_option maxRecDepth 20000 in
theorem gX1_look_X1_isCrowded : GoodIn wsX1_look (wsV RX1 64 RX1 yX1_isCrowded wsX1_isCrowded) := goodIn_app (goodIn_of _ (by decide +kernel)) ggX1_look_X1_isCrowded
set_option maxRecDepth 20000 in
theorem ggX1_look_X1_going : GoodIn wsX1_look wsX1_going := goodIn_r _ [24, 25, 26, 27, 6, 28, 29, 30, 31, 32, 33, 34, 35, 36, 37, 1, 9, 10, 11, 12, 2, 3, 4, 5, 7, 8, 38, 39, 40, 41, 42, 43, 44, 45, 46, 47, 48, 53, 54, 55, 56, 57, 58, 59, 60] (by decide +kernel) (by decide +kernel)
set_option maxRecDepth 20000 in
theorem gX1_look_X1_going : GoodIn wsX1_look (wsV RX1 73 RX1 yX1_going wsX1_going) := goodIn_app (goodIn_of _ (by decide +kernel)) ggX1_look_X1_going
set_option maxRecDepth 20000 in
theorem ggX1_look_X1_branches : GoodIn wsX1_look wsX1_branches := goodIn_r _ [52, 38, 39, 40, 6, 41, 42, 43, 1, 53, 54, 55, 56, 57, 58, 59, 60] (by decide +kernel) (by decide +kernel)
set_option maxRecDepth 20000 in
theorem gX1_look_X1_branches : GoodIn wsX1_look (wsV RX1 76 RX1 yX1_branches wsX1_branches) := goodIn_app (goodIn_of _ (by decide +kernel)) ggX1_look_X1_branches
theorem dX1_look_0 : decode cX1_look 0 = .ok (.iload_n 1, 1) := by decide +kernel
theorem dX1_look_1 : decode cX1_look 1 = .ok (.tableswitch 111 0 7 #[47, 52, 57, 70, 83, 96, 101, 106], 47) := by decide +kernel
theorem dX1_look_48 : decode cX1_look 48 = .ok (.aload_n 0, 1) := by decide +kernel
theorem dX1_look_49 : decode cX1_look 49 = .ok (.getfield 39, 3) := by decide +kernel
theorem dX1_look_52 : decode cX1_look 52 = .ok (.ireturn, 1) := by decide +kernel
theorem dX1_look_53 : decode cX1_look 53 = .ok (.aload_n 0, 1) := by decide +kernel
theorem dX1_look_54 : decode cX1_look 54 = .ok (.invokevirtual 43, 3) := by decide +kernel
theorem dX1_look_57 : decode cX1_look 57 = .ok (.ireturn, 1) := by decide +kernel
theorem dX1_look_58 : decode cX1_look 58 = .ok (.aload_n 0, 1) := by decide +kernel
theorem dX1_look_59 : decode cX1_look 59 = .ok (.invokevirtual 67, 3) := by decide +kernel
theorem dX1_look_62 : decode cX1_look 62 = .ok (.ifCond .eq 7, 3) := by decide +kernel
theorem dX1_look_65 : decode cX1_look 65 = .ok (.iconst 1, 1) := by decide +kernel
theorem dX1_look_66 : decode cX1_look 66 = .ok (.goto 4, 3) := by decide +kernel
theorem dX1_look_69 : decode cX1_look 69 = .ok (.iconst 0, 1) := by decide +kernel
theorem dX1_look_70 : decode cX1_look 70 = .ok (.ireturn, 1) := by decide +kernel
theorem dX1_look_71 : decode cX1_look 71 = .ok (.aload_n 0, 1) := by decide +kernel
theorem dX1_look_72 : decode cX1_look 72 = .ok (.invokevirtual 52, 3) := by decide +kernel
theorem dX1_look_75 : decode cX1_look 75 = .ok (.ifCond .eq 7, 3) := by decide +kernel
theorem dX1_look_78 : decode cX1_look 78 = .ok (.iconst 1, 1) := by decide +kernel
theorem dX1_look_79 : decode cX1_look 79 = .ok (.goto 4, 3) := by decide +kernel
theorem dX1_look_82 : decode cX1_look 82 = .ok (.iconst 0, 1) := by decide +kernel
theorem dX1_look_83 : decode cX1_look 83 = .ok (.ireturn, 1) := by decide +kernel
theorem dX1_look_84 : decode cX1_look 84 = .ok (.aload_n 0, 1) := by decide +kernel
theorem dX1_look_85 : decode cX1_look 85 = .ok (.invokevirtual 64, 3) := by decide +kernel
theorem dX1_look_88 : decode cX1_look 88 = .ok (.ifCond .eq 7, 3) := by decide +kernel
theorem dX1_look_91 : decode cX1_look 91 = .ok (.iconst 1, 1) := by decide +kernel
theorem dX1_look_92 : decode cX1_look 92 = .ok (.goto 4, 3) := by decide +kernel
theorem dX1_look_95 : decode cX1_look 95 = .ok (.iconst 0, 1) := by decide +kernel
theorem dX1_look_96 : decode cX1_look 96 = .ok (.ireturn, 1) := by decide +kernel
theorem dX1_look_97 : decode cX1_look 97 = .ok (.aload_n 0, 1) := by decide +kernel
theorem dX1_look_98 : decode cX1_look 98 = .ok (.getfield 28, 3) := by decide +kernel
theorem dX1_look_101 : decode cX1_look 101 = .ok (.ireturn, 1) := by decide +kernel
theorem dX1_look_102 : decode cX1_look 102 = .ok (.aload_n 0, 1) := by decide +kernel
theorem dX1_look_103 : decode cX1_look 103 = .ok (.invokevirtual 73, 3) := by decide +kernel
theorem dX1_look_106 : decode cX1_look 106 = .ok (.ireturn, 1) := by decide +kernel
theorem dX1_look_107 : decode cX1_look 107 = .ok (.aload_n 0, 1) := by decide +kernel
theorem dX1_look_108 : decode cX1_look 108 = .ok (.invokevirtual 76, 3) := by decide +kernel
theorem dX1_look_111 : decode cX1_look 111 = .ok (.ireturn, 1) := by decide +kernel
theorem dX1_look_112 : decode cX1_look 112 = .ok (.iconst (-1), 1) := by decide +kernel
theorem dX1_look_113 : decode cX1_look 113 = .ok (.ireturn, 1) := by decide +kernel
set_option maxRecDepth 20000 in
theorem ggX1_going_X1_goes : GoodIn wsX1_going wsX1_goes := goodIn_r _ [5, 6, 7, 4, 8, 9, 10, 11, 12, 13, 14, 15, 16, 17, 18, 19, 20, 21, 22, 23, 24, 25, 26, 27, 28, 29, 30, 31, 32, 33, 34, 35, 36, 37, 38, 39, 40, 41, 42, 43, 44] (by decide +kernel) (by decide +kernel)
set_option maxRecDepth 20000 in
theorem gX1_going_X1_goes : GoodIn wsX1_going (wsV RX1 79 RX1 yX1_goes wsX1_goes) := goodIn_app (goodIn_of _ (by decide +kernel)) ggX1_going_X1_goes
theorem dX1_going_0 : decode cX1_going 0 = .ok (.iconst 0, 1) := by decide +kernel
theorem dX1_going_1 : decode cX1_going 1 = .ok (.istore_n 1, 1) := by decide +kernel
theorem dX1_going_2 : decode cX1_going 2 = .ok (.iconst 0, 1) := by decide +kernel
theorem dX1_going_3 : decode cX1_going 3 = .ok (.istore_n 2, 1) := by decide +kernel
theorem dX1_going_4 : decode cX1_going 4 = .ok (.iload_n 2, 1) := by decide +kernel
theorem dX1_going_5 : decode cX1_going 5 = .ok (.bipush 8, 2) := by decide +kernel
theorem dX1_going_7 : decode cX1_going 7 = .ok (.if_icmp .ge 23, 3) := by decide +kernel
theorem dX1_going_10 : decode cX1_going 10 = .ok (.aload_n 0, 1) := by decide +kernel
theorem dX1_going_11 : decode cX1_going 11 = .ok (.iload_n 2, 1) := by decide +kernel
theorem dX1_going_12 : decode cX1_going 12 = .ok (.invokevirtual 79, 3) := by decide +kernel
theorem dX1_going_15 : decode cX1_going 15 = .ok (.ifCond .eq 9, 3) := by decide +kernel
theorem dX1_going_18 : decode cX1_going 18 = .ok (.iload_n 1, 1) := by decide +kernel
theorem dX1_going_19 : decode cX1_going 19 = .ok (.iconst 1, 1) := by decide +kernel
theorem dX1_going_20 : decode cX1_going 20 = .ok (.iload_n 2, 1) := by decide +kernel
theorem dX1_going_21 : decode cX1_going 21 = .ok (.ishl, 1) := by decide +kernel
theorem dX1_going_22 : decode cX1_going 22 = .ok (.ior, 1) := by decide +kernel
theorem dX1_going_23 : decode cX1_going 23 = .ok (.istore_n 1, 1) := by decide +kernel
theorem dX1_going_24 : decode cX1_going 24 = .ok (.iinc 2 1, 3) := by decide +kernel
theorem dX1_going_27 : decode cX1_going 27 = .ok (.goto (-23), 3) := by decide +kernel
theorem dX1_going_30 : decode cX1_going 30 = .ok (.iload_n 1, 1) := by decide +kernel
theorem dX1_going_31 : decode cX1_going 31 = .ok (.ireturn, 1) := by decide +kernel
set_option maxRecDepth 20000 in
theorem ggX1_branches_X1_till : GoodIn wsX1_branches wsX1_till := goodIn_r _ [5, 6, 7, 8, 9, 10, 11, 12, 13, 14, 15, 16] (by decide +kernel) (by decide +kernel)
set_option maxRecDepth 20000 in
theorem gX1_branches_X1_till : GoodIn wsX1_branches (wsV RX1 60 RX1 yX1_till wsX1_till) := goodIn_app (goodIn_of _ (by decide +kernel)) ggX1_branches_X1_till
theorem dX1_branches_0 : decode cX1_branches 0 = .ok (.iconst 0, 1) := by decide +kernel
theorem dX1_branches_1 : decode cX1_branches 1 = .ok (.istore_n 1, 1) := by decide +kernel
theorem dX1_branches_2 : decode cX1_branches 2 = .ok (.iconst 0, 1) := by decide +kernel
theorem dX1_branches_3 : decode cX1_branches 3 = .ok (.istore_n 2, 1) := by decide +kernel
theorem dX1_branches_4 : decode cX1_branches 4 = .ok (.iload_n 2, 1) := by decide +kernel
theorem dX1_branches_5 : decode cX1_branches 5 = .ok (.sipush 136, 3) := by decide +kernel
theorem dX1_branches_8 : decode cX1_branches 8 = .ok (.if_icmp .ge 34, 3) := by decide +kernel
theorem dX1_branches_11 : decode cX1_branches 11 = .ok (.iload_n 1, 1) := by decide +kernel
theorem dX1_branches_12 : decode cX1_branches 12 = .ok (.aload_n 0, 1) := by decide +kernel
theorem dX1_branches_13 : decode cX1_branches 13 = .ok (.iload_n 2, 1) := by decide +kernel
theorem dX1_branches_14 : decode cX1_branches 14 = .ok (.bipush 17, 2) := by decide +kernel
theorem dX1_branches_16 : decode cX1_branches 16 = .ok (.idiv, 1) := by decide +kernel
theorem dX1_branches_17 : decode cX1_branches 17 = .ok (.iload_n 2, 1) := by decide +kernel
theorem dX1_branches_18 : decode cX1_branches 18 = .ok (.bipush 17, 2) := by decide +kernel
theorem dX1_branches_20 : decode cX1_branches 20 = .ok (.irem, 1) := by decide +kernel
theorem dX1_branches_21 : decode cX1_branches 21 = .ok (.iconst 1, 1) := by decide +kernel
theorem dX1_branches_22 : decode cX1_branches 22 = .ok (.isub, 1) := by decide +kernel
theorem dX1_branches_23 : decode cX1_branches 23 = .ok (.invokevirtual 60, 3) := by decide +kernel
theorem dX1_branches_26 : decode cX1_branches 26 = .ok (.ifCond .le 7, 3) := by decide +kernel
theorem dX1_branches_29 : decode cX1_branches 29 = .ok (.iconst 1, 1) := by decide +kernel
theorem dX1_branches_30 : decode cX1_branches 30 = .ok (.goto 4, 3) := by decide +kernel
theorem dX1_branches_33 : decode cX1_branches 33 = .ok (.iconst 0, 1) := by decide +kernel
theorem dX1_branches_34 : decode cX1_branches 34 = .ok (.iadd, 1) := by decide +kernel
theorem dX1_branches_35 : decode cX1_branches 35 = .ok (.istore_n 1, 1) := by decide +kernel
theorem dX1_branches_36 : decode cX1_branches 36 = .ok (.iinc 2 1, 3) := by decide +kernel
theorem dX1_branches_39 : decode cX1_branches 39 = .ok (.goto (-35), 3) := by decide +kernel
theorem dX1_branches_42 : decode cX1_branches 42 = .ok (.iload_n 1, 1) := by decide +kernel
theorem dX1_branches_43 : decode cX1_branches 43 = .ok (.ireturn, 1) := by decide +kernel
end
section
theorem dJ6_bitCount_0f7a4_0 : decode cJ6_bitCount_0f7a4 0 = .ok (.iload_n 0, 1) := by decide +kernel
theorem dJ6_bitCount_0f7a4_1 : decode cJ6_bitCount_0f7a4 1 = .ok (.iload_n 0, 1) := by decide +kernel
theorem dJ6_bitCount_0f7a4_2 : decode cJ6_bitCount_0f7a4 2 = .ok (.iconst 1, 1) := by decide +kernel
theorem dJ6_bitCount_0f7a4_3 : decode cJ6_bitCount_0f7a4 3 = .ok (.iushr, 1) := by decide +kernel
theorem dJ6_bitCount_0f7a4_4 : decode cJ6_bitCount_0f7a4 4 = .ok (.ldc_w 265, 3) := by decide +kernel
theorem dJ6_bitCount_0f7a4_7 : decode cJ6_bitCount_0f7a4 7 = .ok (.iand, 1) := by decide +kernel
theorem dJ6_bitCount_0f7a4_8 : decode cJ6_bitCount_0f7a4 8 = .ok (.isub, 1) := by decide +kernel
theorem dJ6_bitCount_0f7a4_9 : decode cJ6_bitCount_0f7a4 9 = .ok (.istore_n 0, 1) := by decide +kernel
theorem dJ6_bitCount_0f7a4_10 : decode cJ6_bitCount_0f7a4 10 = .ok (.iload_n 0, 1) := by decide +kernel
theorem dJ6_bitCount_0f7a4_11 : decode cJ6_bitCount_0f7a4 11 = .ok (.ldc_w 266, 3) := by decide +kernel
theorem dJ6_bitCount_0f7a4_14 : decode cJ6_bitCount_0f7a4 14 = .ok (.iand, 1) := by decide +kernel
theorem dJ6_bitCount_0f7a4_15 : decode cJ6_bitCount_0f7a4 15 = .ok (.iload_n 0, 1) := by decide +kernel
theorem dJ6_bitCount_0f7a4_16 : decode cJ6_bitCount_0f7a4 16 = .ok (.iconst 2, 1) := by decide +kernel
theorem dJ6_bitCount_0f7a4_17 : decode cJ6_bitCount_0f7a4 17 = .ok (.iushr, 1) := by decide +kernel
theorem dJ6_bitCount_0f7a4_18 : decode cJ6_bitCount_0f7a4 18 = .ok (.ldc_w 266, 3) := by decide +kernel
theorem dJ6_bitCount_0f7a4_21 : decode cJ6_bitCount_0f7a4 21 = .ok (.iand, 1) := by decide +kernel
theorem dJ6_bitCount_0f7a4_22 : decode cJ6_bitCount_0f7a4 22 = .ok (.iadd, 1) := by decide +kernel
theorem dJ6_bitCount_0f7a4_23 : decode cJ6_bitCount_0f7a4 23 = .ok (.istore_n 0, 1) := by decide +kernel
theorem dJ6_bitCount_0f7a4_24 : decode cJ6_bitCount_0f7a4 24 = .ok (.iload_n 0, 1) := by decide +kernel
theorem dJ6_bitCount_0f7a4_25 : decode cJ6_bitCount_0f7a4 25 = .ok (.iload_n 0, 1) := by decide +kernel
theorem dJ6_bitCount_0f7a4_26 : decode cJ6_bitCount_0f7a4 26 = .ok (.iconst 4, 1) := by decide +kernel
theorem dJ6_bitCount_0f7a4_27 : decode cJ6_bitCount_0f7a4 27 = .ok (.iushr, 1) := by decide +kernel
theorem dJ6_bitCount_0f7a4_28 : decode cJ6_bitCount_0f7a4 28 = .ok (.iadd, 1) := by decide +kernel
theorem dJ6_bitCount_0f7a4_29 : decode cJ6_bitCount_0f7a4 29 = .ok (.ldc_w 267, 3) := by decide +kernel
theorem dJ6_bitCount_0f7a4_32 : decode cJ6_bitCount_0f7a4 32 = .ok (.iand, 1) := by decide +kernel
theorem dJ6_bitCount_0f7a4_33 : decode cJ6_bitCount_0f7a4 33 = .ok (.istore_n 0, 1) := by decide +kernel
theorem dJ6_bitCount_0f7a4_34 : decode cJ6_bitCount_0f7a4 34 = .ok (.iload_n 0, 1) := by decide +kernel
theorem dJ6_bitCount_0f7a4_35 : decode cJ6_bitCount_0f7a4 35 = .ok (.iload_n 0, 1) := by decide +kernel
theorem dJ6_bitCount_0f7a4_36 : decode cJ6_bitCount_0f7a4 36 = .ok (.bipush 8, 2) := by decide +kernel
theorem dJ6_bitCount_0f7a4_38 : decode cJ6_bitCount_0f7a4 38 = .ok (.iushr, 1) := by decide +kernel
theorem dJ6_bitCount_0f7a4_39 : decode cJ6_bitCount_0f7a4 39 = .ok (.iadd, 1) := by decide +kernel
theorem dJ6_bitCount_0f7a4_40 : decode cJ6_bitCount_0f7a4 40 = .ok (.istore_n 0, 1) := by decide +kernel
theorem dJ6_bitCount_0f7a4_41 : decode cJ6_bitCount_0f7a4 41 = .ok (.iload_n 0, 1) := by decide +kernel
theorem dJ6_bitCount_0f7a4_42 : decode cJ6_bitCount_0f7a4 42 = .ok (.iload_n 0, 1) := by decide +kernel
theorem dJ6_bitCount_0f7a4_43 : decode cJ6_bitCount_0f7a4 43 = .ok (.bipush 16, 2) := by decide +kernel
theorem dJ6_bitCount_0f7a4_45 : decode cJ6_bitCount_0f7a4 45 = .ok (.iushr, 1) := by decide +kernel
theorem dJ6_bitCount_0f7a4_46 : decode cJ6_bitCount_0f7a4 46 = .ok (.iadd, 1) := by decide +kernel
theorem dJ6_bitCount_0f7a4_47 : decode cJ6_bitCount_0f7a4 47 = .ok (.istore_n 0, 1) := by decide +kernel
theorem dJ6_bitCount_0f7a4_48 : decode cJ6_bitCount_0f7a4 48 = .ok (.iload_n 0, 1) := by decide +kernel
theorem dJ6_bitCount_0f7a4_49 : decode cJ6_bitCount_0f7a4 49 = .ok (.bipush 63, 2) := by decide +kernel
theorem dJ6_bitCount_0f7a4_51 : decode cJ6_bitCount_0f7a4 51 = .ok (.iand, 1) := by decide +kernel
theorem dJ6_bitCount_0f7a4_52 : decode cJ6_bitCount_0f7a4 52 = .ok (.ireturn, 1) := by decide +kernel
theorem dJ9_max_7cf53_0 : decode cJ9_max_7cf53 0 = .ok (.iload_n 0, 1) := by decide +kernel
theorem dJ9_max_7cf53_1 : decode cJ9_max_7cf53 1 = .ok (.iload_n 1, 1) := by decide +kernel
theorem dJ9_max_7cf53_2 : decode cJ9_max_7cf53 2 = .ok (.if_icmp .lt 7, 3) := by decide +kernel
theorem dJ9_max_7cf53_5 : decode cJ9_max_7cf53 5 = .ok (.iload_n 0, 1) := by decide +kernel
theorem dJ9_max_7cf53_6 : decode cJ9_max_7cf53 6 = .ok (.goto 4, 3) := by decide +kernel
theorem dJ9_max_7cf53_9 : decode cJ9_max_7cf53 9 = .ok (.iload_n 1, 1) := by decide +kernel
theorem dJ9_max_7cf53_10 : decode cJ9_max_7cf53 10 = .ok (.ireturn, 1) := by decide +kernel
theorem dJ9_min_7cf53_0 : decode cJ9_min_7cf53 0 = .ok (.iload_n 0, 1) := by decide +kernel
theorem dJ9_min_7cf53_1 : decode cJ9_min_7cf53 1 = .ok (.iload_n 1, 1) := by decide +kernel
theorem dJ9_min_7cf53_2 : decode cJ9_min_7cf53 2 = .ok (.if_icmp .gt 7, 3) := by decide +kernel
theorem dJ9_min_7cf53_5 : decode cJ9_min_7cf53 5 = .ok (.iload_n 0, 1) := by decide +kernel
theorem dJ9_min_7cf53_6 : decode cJ9_min_7cf53 6 = .ok (.goto 4, 3) := by decide +kernel
theorem dJ9_min_7cf53_9 : decode cJ9_min_7cf53 9 = .ok (.iload_n 1, 1) := by decide +kernel
theorem dJ9_min_7cf53_10 : decode cJ9_min_7cf53 10 = .ok (.ireturn, 1) := by decide +kernel
theorem dJ7_fill_53178_0 : decode cJ7_fill_53178 0 = .ok (.iconst 0, 1) := by decide +kernel
theorem dJ7_fill_53178_1 : decode cJ7_fill_53178 1 = .ok (.istore_n 2, 1) := by decide +kernel
theorem dJ7_fill_53178_2 : decode cJ7_fill_53178 2 = .ok (.aload_n 0, 1) := by decide +kernel
theorem dJ7_fill_53178_3 : decode cJ7_fill_53178 3 = .ok (.arraylength, 1) := by decide +kernel
theorem dJ7_fill_53178_4 : decode cJ7_fill_53178 4 = .ok (.istore_n 3, 1) := by decide +kernel
theorem dJ7_fill_53178_5 : decode cJ7_fill_53178 5 = .ok (.iload_n 2, 1) := by decide +kernel
theorem dJ7_fill_53178_6 : decode cJ7_fill_53178 6 = .ok (.iload_n 3, 1) := by decide +kernel
theorem dJ7_fill_53178_7 : decode cJ7_fill_53178 7 = .ok (.if_icmp .ge 13, 3) := by decide +kernel
theorem dJ7_fill_53178_10 : decode cJ7_fill_53178 10 = .ok (.aload_n 0, 1) := by decide +kernel
theorem dJ7_fill_53178_11 : decode cJ7_fill_53178 11 = .ok (.iload_n 2, 1) := by decide +kernel
theorem dJ7_fill_53178_12 : decode cJ7_fill_53178 12 = .ok (.iload_n 1, 1) := by decide +kernel
theorem dJ7_fill_53178_13 : decode cJ7_fill_53178 13 = .ok (.iastore, 1) := by decide +kernel
theorem dJ7_fill_53178_14 : decode cJ7_fill_53178 14 = .ok (.iinc 2 1, 3) := by decide +kernel
theorem dJ7_fill_53178_17 : decode cJ7_fill_53178 17 = .ok (.goto (-12), 3) := by decide +kernel
theorem dJ7_fill_53178_20 : decode cJ7_fill_53178 20 = .ok (.return_, 1) := by decide +kernel
theorem dL_cell_0 : decode cL_cell 0 = .ok (.iload_n 1, 1) := by decide +kernel
theorem dL_cell_1 : decode cL_cell 1 = .ok (.aload_n 0, 1) := by decide +kernel
theorem dL_cell_2 : decode cL_cell 2 = .ok (.arraylength, 1) := by decide +kernel
theorem dL_cell_3 : decode cL_cell 3 = .ok (.if_icmp .ge 9, 3) := by decide +kernel
theorem dL_cell_6 : decode cL_cell 6 = .ok (.aload_n 0, 1) := by decide +kernel
theorem dL_cell_7 : decode cL_cell 7 = .ok (.iload_n 1, 1) := by decide +kernel
theorem dL_cell_8 : decode cL_cell 8 = .ok (.iaload, 1) := by decide +kernel
theorem dL_cell_9 : decode cL_cell 9 = .ok (.goto 4, 3) := by decide +kernel
theorem dL_cell_12 : decode cL_cell 12 = .ok (.iconst 0, 1) := by decide +kernel
end
section
theorem dL_cell_13 : decode cL_cell 13 = .ok (.ireturn, 1) := by decide +kernel
set_option maxRecDepth 20000 in
theorem ggL_law_L_cell : GoodIn wsL_law wsL_cell := goodIn_r _ [9] (by decide +kernel) (by decide +kernel)
set_option maxRecDepth 20000 in
theorem gL_law_L_cell : GoodIn wsL_law (va_wsS RL 9 yL_cell wsL_cell) := goodIn_app (goodIn_of _ (by decide +kernel)) ggL_law_L_cell
set_option maxRecDepth 20000 in
theorem ggL_law_X0_init : GoodIn wsL_law wsX0_init := goodIn_r _ [12, 13, 14, 15, 16, 17, 18, 19, 20, 21, 22, 23, 24, 25, 26, 27, 28, 29, 30, 274, 275, 276, 277, 278, 279, 280] (by decide +kernel) (by decide +kernel)
set_option maxRecDepth 20000 in
theorem gL_law_X0_init : GoodIn wsL_law (wsX0_init) := ggL_law_X0_init
set_option maxRecDepth 20000 in
theorem ggL_law_X1_init : GoodIn wsL_law wsX1_init := goodIn_r _ [33, 34, 14, 15, 16, 35, 36, 37, 38, 39, 40, 41, 42, 43, 44, 5, 45, 281, 282, 283, 284, 285, 286, 287, 288] (by decide +kernel) (by decide +kernel)
set_option maxRecDepth 20000 in
theorem gL_law_X1_init : GoodIn wsL_law (wsX1_init) := ggL_law_X1_init
set_option maxRecDepth 20000 in
theorem ggL_law_X0_tick : GoodIn wsL_law wsX0_tick := goodIn_r _ [49, 30, 50, 274, 275, 276, 277, 278, 279, 280] (by decide +kernel) (by decide +kernel)
set_option maxRecDepth 20000 in
theorem gL_law_X0_tick : GoodIn wsL_law (wsV RL 21 RX0 yX0_tick wsX0_tick) := goodIn_app (goodIn_of _ (by decide +kernel)) ggL_law_X0_tick
set_option maxRecDepth 20000 in
theorem ggL_law_X1_tick : GoodIn wsL_law wsX1_tick := goodIn_r _ [54, 55, 56, 281, 282, 283, 284, 285, 286, 287, 288] (by decide +kernel) (by decide +kernel)
set_option maxRecDepth 20000 in
theorem gL_law_X1_tick : GoodIn wsL_law (wsV RL 25 RX1 yX1_tick wsX1_tick) := goodIn_app (goodIn_of _ (by decide +kernel)) ggL_law_X1_tick
set_option maxRecDepth 20000 in
theorem ggL_law_X0_hello : GoodIn wsL_law wsX0_hello := goodIn_r _ [60, 29, 17, 30, 274, 275, 276, 277, 278, 279, 280] (by decide +kernel) (by decide +kernel)
set_option maxRecDepth 20000 in
theorem gL_law_X0_hello : GoodIn wsL_law (wsV RL 26 RX0 yX0_hello wsX0_hello) := goodIn_app (goodIn_of _ (by decide +kernel)) ggL_law_X0_hello
set_option maxRecDepth 20000 in
theorem ggL_law_X1_hello : GoodIn wsL_law wsX1_hello := goodIn_r _ [64, 41, 35, 55, 281, 282, 283, 284, 285, 286, 287, 288] (by decide +kernel) (by decide +kernel)
set_option maxRecDepth 20000 in
theorem gL_law_X1_hello : GoodIn wsL_law (wsV RL 30 RX1 yX1_hello wsX1_hello) := goodIn_app (goodIn_of _ (by decide +kernel)) ggL_law_X1_hello
set_option maxRecDepth 20000 in
theorem ggL_law_X0_report : GoodIn wsL_law wsX0_report := goodIn_r _ [68, 18, 30, 69, 70, 2, 71, 274, 275, 276, 277, 278, 279, 280] (by decide +kernel) (by decide +kernel)
set_option maxRecDepth 20000 in
theorem gL_law_X0_report : GoodIn wsL_law (wsV RL 31 RX0 yX0_report wsX0_report) := goodIn_app (goodIn_of _ (by decide +kernel)) ggL_law_X0_report
set_option maxRecDepth 20000 in
theorem ggL_law_X1_report : GoodIn wsL_law wsX1_report := goodIn_r _ [75, 36, 55, 37, 76, 77, 78, 5, 79, 281, 282, 283, 284, 285, 286, 287, 288] (by decide +kernel) (by decide +kernel)
set_option maxRecDepth 20000 in
theorem gL_law_X1_report : GoodIn wsL_law (wsV RL 34 RX1 yX1_report wsX1_report) := goodIn_app (goodIn_of _ (by decide +kernel)) ggL_law_X1_report
set_option maxRecDepth 20000 in
theorem ggL_law_X0_leave : GoodIn wsL_law wsX0_leave := goodIn_r _ [83, 18, 30, 22, 23, 24, 25, 69, 70, 2, 71, 84, 85, 86, 87, 88, 89, 90, 91, 29, 92, 93, 94, 95, 17, 274, 275, 276, 277, 278, 279, 280] (by decide +kernel) (by decide +kernel)
set_option maxRecDepth 20000 in
theorem gL_law_X0_leave : GoodIn wsL_law (wsV RL 35 RX0 yX0_leave wsX0_leave) := goodIn_app (goodIn_of _ (by decide +kernel)) ggL_law_X0_leave
set_option maxRecDepth 20000 in
theorem ggL_law_X1_leave : GoodIn wsL_law wsX1_leave := goodIn_r _ [99, 37, 55, 77, 78, 5, 79, 100, 101, 102, 103, 36, 104, 105, 106, 107, 41, 108, 109, 110, 111, 35, 281, 282, 283, 284, 285, 286, 287, 288] (by decide +kernel) (by decide +kernel)
set_option maxRecDepth 20000 in
theorem gL_law_X1_leave : GoodIn wsL_law (wsV RL 38 RX1 yX1_leave wsX1_leave) := goodIn_app (goodIn_of _ (by decide +kernel)) ggL_law_X1_leave
set_option maxRecDepth 20000 in
theorem ggL_law_X0_join : GoodIn wsL_law wsX0_join := goodIn_r _ [115, 116, 19, 30, 69, 70, 2, 71, 117, 118, 119, 120, 121, 122, 123, 124, 125, 126, 20, 21, 127, 128, 129, 130, 131, 132, 133, 84, 85, 86, 87, 134, 135, 136, 137, 138, 139, 140, 141, 92, 93, 94, 95, 17, 142, 143, 144, 145, 146, 147, 148, 149, 150, 151, 152, 153, 154, 274, 275, 276, 277, 278, 279, 280] (by decide +kernel) (by decide +kernel)
set_option maxRecDepth 20000 in
theorem gL_law_X0_join : GoodIn wsL_law (wsV RL 39 RX0 yX0_join wsX0_join) := goodIn_app (goodIn_of _ (by decide +kernel)) ggL_law_X0_join
set_option maxRecDepth 20000 in
theorem ggL_law_X1_join : GoodIn wsL_law wsX1_join := goodIn_r _ [158, 38, 55, 39, 76, 40, 159, 160, 5, 161, 77, 78, 79, 162, 163, 164, 165, 166, 167, 168, 169, 108, 109, 110, 111, 35, 281, 282, 283, 284, 285, 286, 287, 288] (by decide +kernel) (by decide +kernel)
set_option maxRecDepth 20000 in
theorem gL_law_X1_join : GoodIn wsL_law (wsV RL 43 RX1 yX1_join wsX1_join) := goodIn_app (goodIn_of _ (by decide +kernel)) ggL_law_X1_join
set_option maxRecDepth 20000 in
theorem ggL_law_X0_prune : GoodIn wsL_law wsX0_prune := goodIn_r _ [173, 19, 22, 23, 24, 25, 69, 70, 2, 71, 117, 118, 119, 120, 121, 122, 131, 132, 133, 84, 85, 86, 87, 30, 134, 135, 136, 137, 138, 139, 140, 141, 92, 93, 94, 95, 17, 142, 143, 144, 145, 146, 147, 148, 274, 275, 276, 277, 278, 279, 280] (by decide +kernel) (by decide +kernel)
set_option maxRecDepth 20000 in
theorem gL_law_X0_prune : GoodIn wsL_law (wsV RL 44 RX0 yX0_prune wsX0_prune) := goodIn_app (goodIn_of _ (by decide +kernel)) ggL_law_X0_prune
set_option maxRecDepth 20000 in
theorem ggL_law_X1_prune : GoodIn wsL_law wsX1_prune := goodIn_r _ [177, 55, 39, 159, 160, 5, 161, 77, 78, 79, 162, 163, 164, 165, 38, 166, 167, 168, 169, 108, 109, 110, 111, 35, 281, 282, 283, 284, 285, 286, 287, 288] (by decide +kernel) (by decide +kernel)
set_option maxRecDepth 20000 in
theorem gL_law_X1_prune : GoodIn wsL_law (wsV RL 48 RX1 yX1_prune wsX1_prune) := goodIn_app (goodIn_of _ (by decide +kernel)) ggL_law_X1_prune
set_option maxRecDepth 20000 in
theorem ggL_law_X0_forget : GoodIn wsL_law wsX0_forget := goodIn_r _ [181, 17, 18, 19, 20, 21, 182, 183, 184, 185, 274, 275, 276, 277, 278, 279, 280] (by decide +kernel) (by decide +kernel)
set_option maxRecDepth 20000 in
theorem gL_law_X0_forget : GoodIn wsL_law (wsV RL 49 RX0 yX0_forget wsX0_forget) := goodIn_app (goodIn_of _ (by decide +kernel)) ggL_law_X0_forget
set_option maxRecDepth 20000 in
theorem ggL_law_X1_forget : GoodIn wsL_law wsX1_forget := goodIn_r _ [189, 42, 43, 44, 5, 45, 35, 36, 38, 40, 281, 282, 283, 284, 285, 286, 287, 288] (by decide +kernel) (by decide +kernel)
set_option maxRecDepth 20000 in
theorem gL_law_X1_forget : GoodIn wsL_law (wsV RL 52 RX1 yX1_forget wsX1_forget) := goodIn_app (goodIn_of _ (by decide +kernel)) ggL_law_X1_forget
set_option maxRecDepth 20000 in
theorem ggL_law_X0_joined : GoodIn wsL_law wsX0_joined := goodIn_r _ [193, 19, 69, 70, 2, 71, 117, 118, 119, 120, 121, 122, 131, 132, 133, 194, 195, 196, 197, 84, 85, 86, 87, 30, 274, 275, 276, 277, 278, 279, 280] (by decide +kernel) (by decide +kernel)
set_option maxRecDepth 20000 in
theorem gL_law_X0_joined : GoodIn wsL_law (wsV RL 53 RX0 yX0_joined wsX0_joined) := goodIn_app (goodIn_of _ (by decide +kernel)) ggL_law_X0_joined
set_option maxRecDepth 20000 in
theorem ggL_law_X1_joined : GoodIn wsL_law wsX1_joined := goodIn_r _ [201, 159, 160, 5, 161, 77, 78, 79, 162, 163, 164, 165, 38, 39, 55, 281, 282, 283, 284, 285, 286, 287, 288] (by decide +kernel) (by decide +kernel)
set_option maxRecDepth 20000 in
theorem gL_law_X1_joined : GoodIn wsL_law (wsV RL 57 RX1 yX1_joined wsX1_joined) := goodIn_app (goodIn_of _ (by decide +kernel)) ggL_law_X1_joined
set_option maxRecDepth 20000 in
theorem ggL_law_X0_cut : GoodIn wsL_law wsX0_cut := goodIn_r _ [205, 20, 21, 69, 70, 2, 71, 120, 121, 122, 127, 128, 129, 130, 19, 131, 132, 133, 84, 85, 86, 87, 30, 149, 150, 151, 152, 153, 154, 274, 275, 276, 277, 278, 279, 280] (by decide +kernel) (by decide +kernel)
set_option maxRecDepth 20000 in
theorem gL_law_X0_cut : GoodIn wsL_law (wsV RL 58 RX0 yX0_cut wsX0_cut) := goodIn_app (goodIn_of _ (by decide +kernel)) ggL_law_X0_cut
set_option maxRecDepth 20000 in
theorem ggL_law_X1_cut : GoodIn wsL_law wsX1_cut := goodIn_r _ [209, 40, 159, 160, 5, 161, 77, 78, 79, 162, 163, 164, 165, 38, 39, 55, 281, 282, 283, 284, 285, 286, 287, 288] (by decide +kernel) (by decide +kernel)
set_option maxRecDepth 20000 in
theorem gL_law_X1_cut : GoodIn wsL_law (wsV RL 61 RX1 yX1_cut wsX1_cut) := goodIn_app (goodIn_of _ (by decide +kernel)) ggL_law_X1_cut
set_option maxRecDepth 20000 in
theorem ggL_law_X0_members : GoodIn wsL_law wsX0_members := goodIn_r _ [213, 18, 69, 70, 2, 71, 194, 195, 196, 197, 84, 85, 86, 87, 30, 274, 275, 276, 277, 278, 279, 280] (by decide +kernel) (by decide +kernel)
set_option maxRecDepth 20000 in
theorem gL_law_X0_members : GoodIn wsL_law (wsV RL 62 RX0 yX0_members wsX0_members) := goodIn_app (goodIn_of _ (by decide +kernel)) ggL_law_X0_members
set_option maxRecDepth 20000 in
theorem ggL_law_X1_members : GoodIn wsL_law wsX1_members := goodIn_r _ [217, 77, 78, 5, 79, 100, 101, 102, 103, 36, 37, 55, 281, 282, 283, 284, 285, 286, 287, 288] (by decide +kernel) (by decide +kernel)
set_option maxRecDepth 20000 in
theorem gL_law_X1_members : GoodIn wsL_law (wsV RL 65 RX1 yX1_members wsX1_members) := goodIn_app (goodIn_of _ (by decide +kernel)) ggL_law_X1_members
set_option maxRecDepth 20000 in
theorem ggL_law_X0_goes : GoodIn wsL_law wsX0_goes := goodIn_r _ [221, 69, 70, 2, 71, 222, 223, 224, 225, 18, 116, 19, 84, 85, 86, 87, 30, 226, 227, 228, 229, 29, 92, 93, 94, 95, 17, 127, 128, 129, 130, 131, 132, 133, 230, 231, 232, 233, 20, 21, 149, 150, 151, 152, 153, 154, 274, 275, 276, 277, 278, 279, 280] (by decide +kernel) (by decide +kernel)
set_option maxRecDepth 20000 in
theorem gL_law_X0_goes : GoodIn wsL_law (wsV RL 66 RX0 yX0_goes wsX0_goes) := goodIn_app (goodIn_of _ (by decide +kernel)) ggL_law_X0_goes
set_option maxRecDepth 20000 in
theorem ggL_law_X1_goes : GoodIn wsL_law wsX1_goes := goodIn_r _ [237, 77, 78, 5, 79, 100, 101, 102, 103, 36, 37, 55, 238, 239, 240, 241, 41, 108, 109, 110, 111, 35, 162, 163, 164, 165, 38, 39, 242, 243, 244, 245, 40, 281, 282, 283, 284, 285, 286, 287, 288] (by decide +kernel) (by decide +kernel)
set_option maxRecDepth 20000 in
theorem gL_law_X1_goes : GoodIn wsL_law (wsV RL 69 RX1 yX1_goes wsX1_goes) := goodIn_app (goodIn_of _ (by decide +kernel)) ggL_law_X1_goes
set_option maxRecDepth 20000 in
theorem ggL_law_X0_look : GoodIn wsL_law wsX0_look := goodIn_r _ [249, 30, 29, 92, 93, 94, 2, 95, 17, 84, 85, 86, 87, 226, 227, 228, 229, 250, 251, 252, 88, 89, 90, 91, 138, 139, 140, 141, 142, 143, 144, 145, 146, 147, 148, 253, 254, 255, 256, 222, 223, 224, 225, 18, 116, 19, 127, 128, 129, 130, 131, 132, 133, 230, 231, 232, 233, 20, 21, 149, 150, 151, 152, 153, 154, 257, 258, 259, 260, 274, 275, 276, 277, 278, 279, 280] (by decide +kernel) (by decide +kernel)
set_option maxRecDepth 20000 in
theorem gL_law_X0_look : GoodIn wsL_law (wsV RL 70 RX0 yX0_look wsX0_look) := goodIn_app (goodIn_of _ (by decide +kernel)) ggL_law_X0_look
set_option maxRecDepth 20000 in
theorem ggL_law_X1_look : GoodIn wsL_law wsX1_look := goodIn_r _ [264, 55, 41, 108, 109, 110, 5, 111, 35, 238, 239, 240, 241, 104, 105, 106, 107, 166, 167, 168, 169, 265, 266, 267, 268, 269, 235, 236, 237, 77, 78, 79, 100, 101, 102, 103, 36, 37, 162, 163, 164, 165, 38, 39, 242, 243, 244, 245, 40, 270, 271, 272, 273, 281, 282, 283, 284, 285, 286, 287, 288] (by decide +kernel) (by decide +kernel)
set_option maxRecDepth 20000 in
theorem gL_law_X1_look : GoodIn wsL_law (wsV RL 73 RX1 yX1_look wsX1_look) := goodIn_app (goodIn_of _ (by decide +kernel)) ggL_law_X1_look
theorem dL_law_0 : decode cL_law 0 = .ok (.new 7, 3) := by decide +kernel
theorem dL_law_3 : decode cL_law 3 = .ok (.dup, 1) := by decide +kernel
theorem dL_law_4 : decode cL_law 4 = .ok (.aload_n 0, 1) := by decide +kernel
theorem dL_law_5 : decode cL_law 5 = .ok (.iconst 0, 1) := by decide +kernel
theorem dL_law_6 : decode cL_law 6 = .ok (.invokestatic 9, 3) := by decide +kernel
theorem dL_law_9 : decode cL_law 9 = .ok (.invokespecial 15, 3) := by decide +kernel
theorem dL_law_12 : decode cL_law 12 = .ok (.astore_n 1, 1) := by decide +kernel
theorem dL_law_13 : decode cL_law 13 = .ok (.new 18, 3) := by decide +kernel
theorem dL_law_16 : decode cL_law 16 = .ok (.dup, 1) := by decide +kernel
theorem dL_law_17 : decode cL_law 17 = .ok (.aload_n 0, 1) := by decide +kernel
theorem dL_law_18 : decode cL_law 18 = .ok (.iconst 0, 1) := by decide +kernel
theorem dL_law_19 : decode cL_law 19 = .ok (.invokestatic 9, 3) := by decide +kernel
theorem dL_law_22 : decode cL_law 22 = .ok (.invokespecial 20, 3) := by decide +kernel
theorem dL_law_25 : decode cL_law 25 = .ok (.astore_n 2, 1) := by decide +kernel
theorem dL_law_26 : decode cL_law 26 = .ok (.iconst 1, 1) := by decide +kernel
theorem dL_law_27 : decode cL_law 27 = .ok (.istore_n 3, 1) := by decide +kernel
theorem dL_law_28 : decode cL_law 28 = .ok (.iload_n 3, 1) := by decide +kernel
theorem dL_law_29 : decode cL_law 29 = .ok (.aload_n 0, 1) := by decide +kernel
theorem dL_law_30 : decode cL_law 30 = .ok (.arraylength, 1) := by decide +kernel
theorem dL_law_31 : decode cL_law 31 = .ok (.iconst 4, 1) := by decide +kernel
theorem dL_law_32 : decode cL_law 32 = .ok (.isub, 1) := by decide +kernel
theorem dL_law_33 : decode cL_law 33 = .ok (.if_icmp .gt 391, 3) := by decide +kernel
theorem dL_law_36 : decode cL_law 36 = .ok (.aload_n 0, 1) := by decide +kernel
theorem dL_law_37 : decode cL_law 37 = .ok (.iload_n 3, 1) := by decide +kernel
theorem dL_law_38 : decode cL_law 38 = .ok (.iaload, 1) := by decide +kernel
theorem dL_law_39 : decode cL_law 39 = .ok (.bipush 15, 2) := by decide +kernel
theorem dL_law_41 : decode cL_law 41 = .ok (.iand, 1) := by decide +kernel
theorem dL_law_42 : decode cL_law 42 = .ok (.tableswitch 376 0 11 #[62, 85, 108, 131, 154, 197, 230, 241, 274, 307, 330, 353], 62) := by decide +kernel
theorem dL_law_104 : decode cL_law 104 = .ok (.aload_n 1, 1) := by decide +kernel
theorem dL_law_105 : decode cL_law 105 = .ok (.aload_n 0, 1) := by decide +kernel
theorem dL_law_106 : decode cL_law 106 = .ok (.iload_n 3, 1) := by decide +kernel
theorem dL_law_107 : decode cL_law 107 = .ok (.iconst 1, 1) := by decide +kernel
theorem dL_law_108 : decode cL_law 108 = .ok (.iadd, 1) := by decide +kernel
theorem dL_law_109 : decode cL_law 109 = .ok (.iaload, 1) := by decide +kernel
theorem dL_law_110 : decode cL_law 110 = .ok (.invokevirtual 21, 3) := by decide +kernel
theorem dL_law_113 : decode cL_law 113 = .ok (.aload_n 2, 1) := by decide +kernel
theorem dL_law_114 : decode cL_law 114 = .ok (.aload_n 0, 1) := by decide +kernel
theorem dL_law_115 : decode cL_law 115 = .ok (.iload_n 3, 1) := by decide +kernel
theorem dL_law_116 : decode cL_law 116 = .ok (.iconst 1, 1) := by decide +kernel
theorem dL_law_117 : decode cL_law 117 = .ok (.iadd, 1) := by decide +kernel
theorem dL_law_118 : decode cL_law 118 = .ok (.iaload, 1) := by decide +kernel
theorem dL_law_119 : decode cL_law 119 = .ok (.invokevirtual 25, 3) := by decide +kernel
theorem dL_law_122 : decode cL_law 122 = .ok (.if_icmp .eq 296, 3) := by decide +kernel
theorem dL_law_125 : decode cL_law 125 = .ok (.iconst 0, 1) := by decide +kernel
theorem dL_law_126 : decode cL_law 126 = .ok (.ireturn, 1) := by decide +kernel
theorem dL_law_127 : decode cL_law 127 = .ok (.aload_n 1, 1) := by decide +kernel
theorem dL_law_128 : decode cL_law 128 = .ok (.aload_n 0, 1) := by decide +kernel
theorem dL_law_129 : decode cL_law 129 = .ok (.iload_n 3, 1) := by decide +kernel
theorem dL_law_130 : decode cL_law 130 = .ok (.iconst 1, 1) := by decide +kernel
theorem dL_law_131 : decode cL_law 131 = .ok (.iadd, 1) := by decide +kernel
theorem dL_law_132 : decode cL_law 132 = .ok (.iaload, 1) := by decide +kernel
theorem dL_law_133 : decode cL_law 133 = .ok (.invokevirtual 26, 3) := by decide +kernel
theorem dL_law_136 : decode cL_law 136 = .ok (.aload_n 2, 1) := by decide +kernel
theorem dL_law_137 : decode cL_law 137 = .ok (.aload_n 0, 1) := by decide +kernel
theorem dL_law_138 : decode cL_law 138 = .ok (.iload_n 3, 1) := by decide +kernel
theorem dL_law_139 : decode cL_law 139 = .ok (.iconst 1, 1) := by decide +kernel
theorem dL_law_140 : decode cL_law 140 = .ok (.iadd, 1) := by decide +kernel
theorem dL_law_141 : decode cL_law 141 = .ok (.iaload, 1) := by decide +kernel
theorem dL_law_142 : decode cL_law 142 = .ok (.invokevirtual 30, 3) := by decide +kernel
theorem dL_law_145 : decode cL_law 145 = .ok (.if_icmp .eq 273, 3) := by decide +kernel
theorem dL_law_148 : decode cL_law 148 = .ok (.iconst 0, 1) := by decide +kernel
theorem dL_law_149 : decode cL_law 149 = .ok (.ireturn, 1) := by decide +kernel
theorem dL_law_150 : decode cL_law 150 = .ok (.aload_n 1, 1) := by decide +kernel
theorem dL_law_151 : decode cL_law 151 = .ok (.aload_n 0, 1) := by decide +kernel
theorem dL_law_152 : decode cL_law 152 = .ok (.iload_n 3, 1) := by decide +kernel
theorem dL_law_153 : decode cL_law 153 = .ok (.iconst 1, 1) := by decide +kernel
theorem dL_law_154 : decode cL_law 154 = .ok (.iadd, 1) := by decide +kernel
theorem dL_law_155 : decode cL_law 155 = .ok (.iaload, 1) := by decide +kernel
theorem dL_law_156 : decode cL_law 156 = .ok (.invokevirtual 31, 3) := by decide +kernel
theorem dL_law_159 : decode cL_law 159 = .ok (.aload_n 2, 1) := by decide +kernel
theorem dL_law_160 : decode cL_law 160 = .ok (.aload_n 0, 1) := by decide +kernel
theorem dL_law_161 : decode cL_law 161 = .ok (.iload_n 3, 1) := by decide +kernel
theorem dL_law_162 : decode cL_law 162 = .ok (.iconst 1, 1) := by decide +kernel
theorem dL_law_163 : decode cL_law 163 = .ok (.iadd, 1) := by decide +kernel
theorem dL_law_164 : decode cL_law 164 = .ok (.iaload, 1) := by decide +kernel
theorem dL_law_165 : decode cL_law 165 = .ok (.invokevirtual 34, 3) := by decide +kernel
theorem dL_law_168 : decode cL_law 168 = .ok (.if_icmp .eq 250, 3) := by decide +kernel
theorem dL_law_171 : decode cL_law 171 = .ok (.iconst 0, 1) := by decide +kernel
theorem dL_law_172 : decode cL_law 172 = .ok (.ireturn, 1) := by decide +kernel
theorem dL_law_173 : decode cL_law 173 = .ok (.aload_n 1, 1) := by decide +kernel
theorem dL_law_174 : decode cL_law 174 = .ok (.aload_n 0, 1) := by decide +kernel
theorem dL_law_175 : decode cL_law 175 = .ok (.iload_n 3, 1) := by decide +kernel
theorem dL_law_176 : decode cL_law 176 = .ok (.iconst 1, 1) := by decide +kernel
theorem dL_law_177 : decode cL_law 177 = .ok (.iadd, 1) := by decide +kernel
theorem dL_law_178 : decode cL_law 178 = .ok (.iaload, 1) := by decide +kernel
theorem dL_law_179 : decode cL_law 179 = .ok (.invokevirtual 35, 3) := by decide +kernel
theorem dL_law_182 : decode cL_law 182 = .ok (.aload_n 2, 1) := by decide +kernel
theorem dL_law_183 : decode cL_law 183 = .ok (.aload_n 0, 1) := by decide +kernel
theorem dL_law_184 : decode cL_law 184 = .ok (.iload_n 3, 1) := by decide +kernel
theorem dL_law_185 : decode cL_law 185 = .ok (.iconst 1, 1) := by decide +kernel
theorem dL_law_186 : decode cL_law 186 = .ok (.iadd, 1) := by decide +kernel
theorem dL_law_187 : decode cL_law 187 = .ok (.iaload, 1) := by decide +kernel
theorem dL_law_188 : decode cL_law 188 = .ok (.invokevirtual 38, 3) := by decide +kernel
theorem dL_law_191 : decode cL_law 191 = .ok (.if_icmp .eq 227, 3) := by decide +kernel
theorem dL_law_194 : decode cL_law 194 = .ok (.iconst 0, 1) := by decide +kernel
theorem dL_law_195 : decode cL_law 195 = .ok (.ireturn, 1) := by decide +kernel
theorem dL_law_196 : decode cL_law 196 = .ok (.aload_n 1, 1) := by decide +kernel
theorem dL_law_197 : decode cL_law 197 = .ok (.aload_n 0, 1) := by decide +kernel
theorem dL_law_198 : decode cL_law 198 = .ok (.iload_n 3, 1) := by decide +kernel
theorem dL_law_199 : decode cL_law 199 = .ok (.iconst 1, 1) := by decide +kernel
theorem dL_law_200 : decode cL_law 200 = .ok (.iadd, 1) := by decide +kernel
theorem dL_law_201 : decode cL_law 201 = .ok (.iaload, 1) := by decide +kernel
theorem dL_law_202 : decode cL_law 202 = .ok (.aload_n 0, 1) := by decide +kernel
theorem dL_law_203 : decode cL_law 203 = .ok (.iload_n 3, 1) := by decide +kernel
theorem dL_law_204 : decode cL_law 204 = .ok (.iconst 2, 1) := by decide +kernel
theorem dL_law_205 : decode cL_law 205 = .ok (.iadd, 1) := by decide +kernel
theorem dL_law_206 : decode cL_law 206 = .ok (.iaload, 1) := by decide +kernel
theorem dL_law_207 : decode cL_law 207 = .ok (.aload_n 0, 1) := by decide +kernel
theorem dL_law_208 : decode cL_law 208 = .ok (.iload_n 3, 1) := by decide +kernel
theorem dL_law_209 : decode cL_law 209 = .ok (.iconst 3, 1) := by decide +kernel
theorem dL_law_210 : decode cL_law 210 = .ok (.iadd, 1) := by decide +kernel
theorem dL_law_211 : decode cL_law 211 = .ok (.iaload, 1) := by decide +kernel
theorem dL_law_212 : decode cL_law 212 = .ok (.invokevirtual 39, 3) := by decide +kernel
theorem dL_law_215 : decode cL_law 215 = .ok (.aload_n 2, 1) := by decide +kernel
theorem dL_law_216 : decode cL_law 216 = .ok (.aload_n 0, 1) := by decide +kernel
theorem dL_law_217 : decode cL_law 217 = .ok (.iload_n 3, 1) := by decide +kernel
theorem dL_law_218 : decode cL_law 218 = .ok (.iconst 1, 1) := by decide +kernel
theorem dL_law_219 : decode cL_law 219 = .ok (.iadd, 1) := by decide +kernel
theorem dL_law_220 : decode cL_law 220 = .ok (.iaload, 1) := by decide +kernel
theorem dL_law_221 : decode cL_law 221 = .ok (.aload_n 0, 1) := by decide +kernel
theorem dL_law_222 : decode cL_law 222 = .ok (.iload_n 3, 1) := by decide +kernel
theorem dL_law_223 : decode cL_law 223 = .ok (.iconst 2, 1) := by decide +kernel
theorem dL_law_224 : decode cL_law 224 = .ok (.iadd, 1) := by decide +kernel
theorem dL_law_225 : decode cL_law 225 = .ok (.iaload, 1) := by decide +kernel
theorem dL_law_226 : decode cL_law 226 = .ok (.aload_n 0, 1) := by decide +kernel
theorem dL_law_227 : decode cL_law 227 = .ok (.iload_n 3, 1) := by decide +kernel
theorem dL_law_228 : decode cL_law 228 = .ok (.iconst 3, 1) := by decide +kernel
theorem dL_law_229 : decode cL_law 229 = .ok (.iadd, 1) := by decide +kernel
theorem dL_law_230 : decode cL_law 230 = .ok (.iaload, 1) := by decide +kernel
theorem dL_law_231 : decode cL_law 231 = .ok (.invokevirtual 43, 3) := by decide +kernel
theorem dL_law_234 : decode cL_law 234 = .ok (.if_icmp .eq 184, 3) := by decide +kernel
theorem dL_law_237 : decode cL_law 237 = .ok (.iconst 0, 1) := by decide +kernel
theorem dL_law_238 : decode cL_law 238 = .ok (.ireturn, 1) := by decide +kernel
theorem dL_law_239 : decode cL_law 239 = .ok (.aload_n 1, 1) := by decide +kernel
theorem dL_law_240 : decode cL_law 240 = .ok (.aload_n 0, 1) := by decide +kernel
theorem dL_law_241 : decode cL_law 241 = .ok (.iload_n 3, 1) := by decide +kernel
theorem dL_law_242 : decode cL_law 242 = .ok (.iconst 1, 1) := by decide +kernel
theorem dL_law_243 : decode cL_law 243 = .ok (.iadd, 1) := by decide +kernel
theorem dL_law_244 : decode cL_law 244 = .ok (.iaload, 1) := by decide +kernel
theorem dL_law_245 : decode cL_law 245 = .ok (.aload_n 0, 1) := by decide +kernel
theorem dL_law_246 : decode cL_law 246 = .ok (.iload_n 3, 1) := by decide +kernel
theorem dL_law_247 : decode cL_law 247 = .ok (.iconst 2, 1) := by decide +kernel
theorem dL_law_248 : decode cL_law 248 = .ok (.iadd, 1) := by decide +kernel
theorem dL_law_249 : decode cL_law 249 = .ok (.iaload, 1) := by decide +kernel
theorem dL_law_250 : decode cL_law 250 = .ok (.invokevirtual 44, 3) := by decide +kernel
theorem dL_law_253 : decode cL_law 253 = .ok (.aload_n 2, 1) := by decide +kernel
theorem dL_law_254 : decode cL_law 254 = .ok (.aload_n 0, 1) := by decide +kernel
theorem dL_law_255 : decode cL_law 255 = .ok (.iload_n 3, 1) := by decide +kernel
theorem dL_law_256 : decode cL_law 256 = .ok (.iconst 1, 1) := by decide +kernel
theorem dL_law_257 : decode cL_law 257 = .ok (.iadd, 1) := by decide +kernel
theorem dL_law_258 : decode cL_law 258 = .ok (.iaload, 1) := by decide +kernel
theorem dL_law_259 : decode cL_law 259 = .ok (.aload_n 0, 1) := by decide +kernel
theorem dL_law_260 : decode cL_law 260 = .ok (.iload_n 3, 1) := by decide +kernel
theorem dL_law_261 : decode cL_law 261 = .ok (.iconst 2, 1) := by decide +kernel
theorem dL_law_262 : decode cL_law 262 = .ok (.iadd, 1) := by decide +kernel
theorem dL_law_263 : decode cL_law 263 = .ok (.iaload, 1) := by decide +kernel
theorem dL_law_264 : decode cL_law 264 = .ok (.invokevirtual 48, 3) := by decide +kernel
theorem dL_law_267 : decode cL_law 267 = .ok (.if_icmp .eq 151, 3) := by decide +kernel
theorem dL_law_270 : decode cL_law 270 = .ok (.iconst 0, 1) := by decide +kernel
theorem dL_law_271 : decode cL_law 271 = .ok (.ireturn, 1) := by decide +kernel
theorem dL_law_272 : decode cL_law 272 = .ok (.aload_n 1, 1) := by decide +kernel
theorem dL_law_273 : decode cL_law 273 = .ok (.invokevirtual 49, 3) := by decide +kernel
theorem dL_law_276 : decode cL_law 276 = .ok (.aload_n 2, 1) := by decide +kernel
theorem dL_law_277 : decode cL_law 277 = .ok (.invokevirtual 52, 3) := by decide +kernel
theorem dL_law_280 : decode cL_law 280 = .ok (.goto 138, 3) := by decide +kernel
theorem dL_law_283 : decode cL_law 283 = .ok (.aload_n 1, 1) := by decide +kernel
theorem dL_law_284 : decode cL_law 284 = .ok (.aload_n 0, 1) := by decide +kernel
theorem dL_law_285 : decode cL_law 285 = .ok (.iload_n 3, 1) := by decide +kernel
theorem dL_law_286 : decode cL_law 286 = .ok (.iconst 1, 1) := by decide +kernel
theorem dL_law_287 : decode cL_law 287 = .ok (.iadd, 1) := by decide +kernel
theorem dL_law_288 : decode cL_law 288 = .ok (.iaload, 1) := by decide +kernel
theorem dL_law_289 : decode cL_law 289 = .ok (.aload_n 0, 1) := by decide +kernel
theorem dL_law_290 : decode cL_law 290 = .ok (.iload_n 3, 1) := by decide +kernel
theorem dL_law_291 : decode cL_law 291 = .ok (.iconst 2, 1) := by decide +kernel
theorem dL_law_292 : decode cL_law 292 = .ok (.iadd, 1) := by decide +kernel
theorem dL_law_293 : decode cL_law 293 = .ok (.iaload, 1) := by decide +kernel
theorem dL_law_294 : decode cL_law 294 = .ok (.invokevirtual 53, 3) := by decide +kernel
theorem dL_law_297 : decode cL_law 297 = .ok (.aload_n 2, 1) := by decide +kernel
theorem dL_law_298 : decode cL_law 298 = .ok (.aload_n 0, 1) := by decide +kernel
theorem dL_law_299 : decode cL_law 299 = .ok (.iload_n 3, 1) := by decide +kernel
theorem dL_law_300 : decode cL_law 300 = .ok (.iconst 1, 1) := by decide +kernel
theorem dL_law_301 : decode cL_law 301 = .ok (.iadd, 1) := by decide +kernel
theorem dL_law_302 : decode cL_law 302 = .ok (.iaload, 1) := by decide +kernel
theorem dL_law_303 : decode cL_law 303 = .ok (.aload_n 0, 1) := by decide +kernel
theorem dL_law_304 : decode cL_law 304 = .ok (.iload_n 3, 1) := by decide +kernel
theorem dL_law_305 : decode cL_law 305 = .ok (.iconst 2, 1) := by decide +kernel
theorem dL_law_306 : decode cL_law 306 = .ok (.iadd, 1) := by decide +kernel
theorem dL_law_307 : decode cL_law 307 = .ok (.iaload, 1) := by decide +kernel
theorem dL_law_308 : decode cL_law 308 = .ok (.invokevirtual 57, 3) := by decide +kernel
theorem dL_law_311 : decode cL_law 311 = .ok (.if_icmp .eq 107, 3) := by decide +kernel
theorem dL_law_314 : decode cL_law 314 = .ok (.iconst 0, 1) := by decide +kernel
theorem dL_law_315 : decode cL_law 315 = .ok (.ireturn, 1) := by decide +kernel
theorem dL_law_316 : decode cL_law 316 = .ok (.aload_n 1, 1) := by decide +kernel
theorem dL_law_317 : decode cL_law 317 = .ok (.aload_n 0, 1) := by decide +kernel
theorem dL_law_318 : decode cL_law 318 = .ok (.iload_n 3, 1) := by decide +kernel
theorem dL_law_319 : decode cL_law 319 = .ok (.iconst 1, 1) := by decide +kernel
theorem dL_law_320 : decode cL_law 320 = .ok (.iadd, 1) := by decide +kernel
theorem dL_law_321 : decode cL_law 321 = .ok (.iaload, 1) := by decide +kernel
theorem dL_law_322 : decode cL_law 322 = .ok (.aload_n 0, 1) := by decide +kernel
theorem dL_law_323 : decode cL_law 323 = .ok (.iload_n 3, 1) := by decide +kernel
theorem dL_law_324 : decode cL_law 324 = .ok (.iconst 2, 1) := by decide +kernel
theorem dL_law_325 : decode cL_law 325 = .ok (.iadd, 1) := by decide +kernel
theorem dL_law_326 : decode cL_law 326 = .ok (.iaload, 1) := by decide +kernel
theorem dL_law_327 : decode cL_law 327 = .ok (.invokevirtual 58, 3) := by decide +kernel
theorem dL_law_330 : decode cL_law 330 = .ok (.aload_n 2, 1) := by decide +kernel
theorem dL_law_331 : decode cL_law 331 = .ok (.aload_n 0, 1) := by decide +kernel
theorem dL_law_332 : decode cL_law 332 = .ok (.iload_n 3, 1) := by decide +kernel
theorem dL_law_333 : decode cL_law 333 = .ok (.iconst 1, 1) := by decide +kernel
theorem dL_law_334 : decode cL_law 334 = .ok (.iadd, 1) := by decide +kernel
theorem dL_law_335 : decode cL_law 335 = .ok (.iaload, 1) := by decide +kernel
theorem dL_law_336 : decode cL_law 336 = .ok (.aload_n 0, 1) := by decide +kernel
theorem dL_law_337 : decode cL_law 337 = .ok (.iload_n 3, 1) := by decide +kernel
theorem dL_law_338 : decode cL_law 338 = .ok (.iconst 2, 1) := by decide +kernel
theorem dL_law_339 : decode cL_law 339 = .ok (.iadd, 1) := by decide +kernel
theorem dL_law_340 : decode cL_law 340 = .ok (.iaload, 1) := by decide +kernel
theorem dL_law_341 : decode cL_law 341 = .ok (.invokevirtual 61, 3) := by decide +kernel
theorem dL_law_344 : decode cL_law 344 = .ok (.if_icmp .eq 74, 3) := by decide +kernel
theorem dL_law_347 : decode cL_law 347 = .ok (.iconst 0, 1) := by decide +kernel
theorem dL_law_348 : decode cL_law 348 = .ok (.ireturn, 1) := by decide +kernel
theorem dL_law_349 : decode cL_law 349 = .ok (.aload_n 1, 1) := by decide +kernel
theorem dL_law_350 : decode cL_law 350 = .ok (.aload_n 0, 1) := by decide +kernel
theorem dL_law_351 : decode cL_law 351 = .ok (.iload_n 3, 1) := by decide +kernel
theorem dL_law_352 : decode cL_law 352 = .ok (.iconst 1, 1) := by decide +kernel
theorem dL_law_353 : decode cL_law 353 = .ok (.iadd, 1) := by decide +kernel
theorem dL_law_354 : decode cL_law 354 = .ok (.iaload, 1) := by decide +kernel
theorem dL_law_355 : decode cL_law 355 = .ok (.invokevirtual 62, 3) := by decide +kernel
theorem dL_law_358 : decode cL_law 358 = .ok (.aload_n 2, 1) := by decide +kernel
theorem dL_law_359 : decode cL_law 359 = .ok (.aload_n 0, 1) := by decide +kernel
theorem dL_law_360 : decode cL_law 360 = .ok (.iload_n 3, 1) := by decide +kernel
theorem dL_law_361 : decode cL_law 361 = .ok (.iconst 1, 1) := by decide +kernel
theorem dL_law_362 : decode cL_law 362 = .ok (.iadd, 1) := by decide +kernel
theorem dL_law_363 : decode cL_law 363 = .ok (.iaload, 1) := by decide +kernel
theorem dL_law_364 : decode cL_law 364 = .ok (.invokevirtual 65, 3) := by decide +kernel
theorem dL_law_367 : decode cL_law 367 = .ok (.if_icmp .eq 51, 3) := by decide +kernel
theorem dL_law_370 : decode cL_law 370 = .ok (.iconst 0, 1) := by decide +kernel
theorem dL_law_371 : decode cL_law 371 = .ok (.ireturn, 1) := by decide +kernel
theorem dL_law_372 : decode cL_law 372 = .ok (.aload_n 1, 1) := by decide +kernel
theorem dL_law_373 : decode cL_law 373 = .ok (.aload_n 0, 1) := by decide +kernel
theorem dL_law_374 : decode cL_law 374 = .ok (.iload_n 3, 1) := by decide +kernel
theorem dL_law_375 : decode cL_law 375 = .ok (.iconst 1, 1) := by decide +kernel
theorem dL_law_376 : decode cL_law 376 = .ok (.iadd, 1) := by decide +kernel
theorem dL_law_377 : decode cL_law 377 = .ok (.iaload, 1) := by decide +kernel
theorem dL_law_378 : decode cL_law 378 = .ok (.invokevirtual 66, 3) := by decide +kernel
theorem dL_law_381 : decode cL_law 381 = .ok (.aload_n 2, 1) := by decide +kernel
theorem dL_law_382 : decode cL_law 382 = .ok (.aload_n 0, 1) := by decide +kernel
theorem dL_law_383 : decode cL_law 383 = .ok (.iload_n 3, 1) := by decide +kernel
theorem dL_law_384 : decode cL_law 384 = .ok (.iconst 1, 1) := by decide +kernel
theorem dL_law_385 : decode cL_law 385 = .ok (.iadd, 1) := by decide +kernel
theorem dL_law_386 : decode cL_law 386 = .ok (.iaload, 1) := by decide +kernel
theorem dL_law_387 : decode cL_law 387 = .ok (.invokevirtual 69, 3) := by decide +kernel
theorem dL_law_390 : decode cL_law 390 = .ok (.if_icmp .eq 28, 3) := by decide +kernel
theorem dL_law_393 : decode cL_law 393 = .ok (.iconst 0, 1) := by decide +kernel
theorem dL_law_394 : decode cL_law 394 = .ok (.ireturn, 1) := by decide +kernel
theorem dL_law_395 : decode cL_law 395 = .ok (.aload_n 1, 1) := by decide +kernel
theorem dL_law_396 : decode cL_law 396 = .ok (.aload_n 0, 1) := by decide +kernel
theorem dL_law_397 : decode cL_law 397 = .ok (.iload_n 3, 1) := by decide +kernel
theorem dL_law_398 : decode cL_law 398 = .ok (.iconst 1, 1) := by decide +kernel
theorem dL_law_399 : decode cL_law 399 = .ok (.iadd, 1) := by decide +kernel
theorem dL_law_400 : decode cL_law 400 = .ok (.iaload, 1) := by decide +kernel
theorem dL_law_401 : decode cL_law 401 = .ok (.invokevirtual 70, 3) := by decide +kernel
theorem dL_law_404 : decode cL_law 404 = .ok (.aload_n 2, 1) := by decide +kernel
theorem dL_law_405 : decode cL_law 405 = .ok (.aload_n 0, 1) := by decide +kernel
theorem dL_law_406 : decode cL_law 406 = .ok (.iload_n 3, 1) := by decide +kernel
theorem dL_law_407 : decode cL_law 407 = .ok (.iconst 1, 1) := by decide +kernel
theorem dL_law_408 : decode cL_law 408 = .ok (.iadd, 1) := by decide +kernel
theorem dL_law_409 : decode cL_law 409 = .ok (.iaload, 1) := by decide +kernel
theorem dL_law_410 : decode cL_law 410 = .ok (.invokevirtual 73, 3) := by decide +kernel
theorem dL_law_413 : decode cL_law 413 = .ok (.if_icmp .eq 5, 3) := by decide +kernel
theorem dL_law_416 : decode cL_law 416 = .ok (.iconst 0, 1) := by decide +kernel
theorem dL_law_417 : decode cL_law 417 = .ok (.ireturn, 1) := by decide +kernel
theorem dL_law_418 : decode cL_law 418 = .ok (.iinc 3 4, 3) := by decide +kernel
theorem dL_law_421 : decode cL_law 421 = .ok (.goto (-393), 3) := by decide +kernel
theorem dL_law_424 : decode cL_law 424 = .ok (.iconst 1, 1) := by decide +kernel
theorem dL_law_425 : decode cL_law 425 = .ok (.ireturn, 1) := by decide +kernel
end
section
-- pictures of the cells
abbrev wX (h a1 a2 a3 a4 a5 : Nat) (cA : ClassId) (me tm : Int32) (fN fM fJ fT fC : Nat → Int32) : va_W := [(h, .inr (0, [.int me, .int tm, .ref a1, .ref a2, .ref a3, .ref a4, .ref a5])), (a1, .inl (cA, 10, .inl fN)), (a2, .inl (cA, 8, .inl fM)), (a3, .inl (cA, 136, .inl fJ)), (a4, .inl (cA, 8, .inl fT)), (a5, .inl (cA, 128, .inl fC))]
abbrev wM (h a1 a2 a3 a4 a5 a6 : Nat) (cA : ClassId) (me tm : Int32) (hA rA lT jA pT cF : Nat → Int32) : va_W := [(h, .inr (1, [.int me, .int tm, .ref a1, .ref a2, .ref a3, .ref a4, .ref a5, .ref a6])), (a1, .inl (cA, 10, .inl hA)), (a2, .inl (cA, 8, .inl rA)), (a3, .inl (cA, 8, .inl lT)), (a4, .inl (cA, 136, .inl jA)), (a5, .inl (cA, 136, .inl pT)), (a6, .inl (cA, 128, .inl cF))]
-- contracts' starts: of a reading method over a world, of a static one, of a writing one
def PR (av : List Value) (dC : Nat → ClassId) (dI : Nat → Nat → Nat) (cA : ClassId) (wd : va_W) : Array Value → State → Prop := va_Pc av (fun U => va_P (dC, dI) vwCl wd U.heap ∧ va_K (dC, dI) vwCl [(cA, .int)] U)
def PS (av : List Value) : Array Value → State → Prop := va_Pc av (fun _ => True)
def PW (av : List Value) (dC : Nat → ClassId) (dI : Nat → Nat → Nat) (cA : ClassId) (wd : va_W) (sz : Nat) : Array Value → State → Prop := va_Pc av (fun U => U.heap.size = sz ∧ va_P (dC, dI) vwCl wd U.heap ∧ va_K (dC, dI) vwCl [(cA, .int)] U ∧ va_D (fun _ => True) wd)
def QWi (dC : Nat → ClassId) (dI : Nat → Nat → Nat) (r : Int32) (wd wd' : va_W) (sz : Nat) : Array Value → State → Outcome → State → Prop := va_Qi (fun (r' : Int32) (_ : Unit) => r' = r) (fun _ t => va_P (dC, dI) vwCl wd' t.heap) (va_A wd sz)
def QWv (dC : Nat → ClassId) (dI : Nat → Nat → Nat) (wd wd' : va_W) (sz : Nat) : Array Value → State → Outcome → State → Prop := va_Qv (fun (_ : Unit) => True) (fun _ t => va_P (dC, dI) vwCl wd' t.heap) (va_A wd sz)
theorem PR_blind {av : List Value} {dC : Nat → ClassId} {dI : Nat → Nat → Nat} {cA : ClassId} {wd : va_W} : FrameBlind (PR av dC dI cA wd) := fun a U g mk q => ⟨q.1, q.2.1, va_K.moved (u := U) (U := U.calling g mk a) (Vm.Alike.refl U.vm) q.2.2⟩
theorem PS_blind {av : List Value} : FrameBlind (PS av) := fun _ _ _ _ q => ⟨q.1, trivial⟩
theorem PW_blind {av : List Value} {dC : Nat → ClassId} {dI : Nat → Nat → Nat} {cA : ClassId} {wd : va_W} {sz : Nat} : FrameBlind (PW av dC dI cA wd sz) := fun a U g mk q => ⟨q.1, q.2.1, q.2.2.1, va_K.moved (u := U) (U := U.calling g mk a) (Vm.Alike.refl U.vm) q.2.2.2.1, q.2.2.2.2⟩
/-- which cells are apart is a matter of their addresses alone -/
theorem D_same {A : Nat → Prop} {ws ws' : va_W} (h : va_D A ws) (e : ws'.map (fun q => q.1) = ws.map (fun q => q.1)) : va_D A ws' := by
  have key : ∀ (k : Nat) (q : Nat × va_E), ws'[k]? = some q → ∃ q2, ws[k]? = some q2 ∧ q2.1 = q.1 := by
    intro k q hq
    have h1 : (ws'.map (fun q => q.1))[k]? = some q.1 := by simp [hq]
    rw [e] at h1
    simp only [List.getElem?_map, Option.map_eq_some_iff] at h1
    exact h1
  refine ⟨fun i j p q hp hq hpq => ?_, fun k q hq => ?_⟩
  · obtain ⟨p2, hp2, ep⟩ := key i p hp
    obtain ⟨q2, hq2, eq⟩ := key j q hq
    exact h.1 i j p2 q2 hp2 hq2 (by rw [ep, eq]; exact hpq)
  · obtain ⟨q2, hq2, eq⟩ := key k q hq
    rw [← eq]
    exact h.2 k q2 hq2
section RD
variable {p : Program} {l : Launch} {e : Env} {R : Room} {s : State} {m : MethodId} {args : Array Value} {below : List Frame} {meth : Method} {c : Code} {H : Heap} {locs : List Loc} {cells slots : Nat} {Q : State → Prop}
variable {Ts ws ws' : List Cond} {cc bytes : ByteArray} {nL maxL index n : Nat} {own C : String} {y : MethodName} {ret : Option FieldType} {rm : Room}
variable {As rest st0 : List Value} {pc : Nat} {ls : Array Slot} {dC : Nat → ClassId} {dI : Nat → Nat → Nat} {cA : ClassId} {wd : va_W}
/-- the number on top has another name -/
theorem lv_top {x x' : Int32} (h : x = x') (k : W p l e R s m args below meth c H locs cells slots Q (F0 m pc ls (.int x' :: rest))) : W p l e R s m args below meth c H locs cells slots Q (F0 m pc ls (.int x :: rest)) := h ▸ k
/-- a call that reads: an object's method -/
theorem rd_V {b : Nat} {r : Int32} {ci : Nat} {qc : vw_C} {fs : List Value} (S : CallFix p m c cc nL s args Ts own) (hM : Met l y ws rm (PR (.ref b :: As) dC dI cA wd) (QcRead r) 0 0 (fun _ => False)) (hG : GoodIn Ts (wsV own index qc.1 y ws)) (hw : ws = Cond.code y bytes maxL ret :: ws') (hrm : rm.cells = 0 ∧ rm.slots = 0)
    (hd : y.cls = qc.1 ∧ y.cls ≠ "java/lang/invoke/MethodHandle" ∧ y.cls ≠ "java/lang/invoke/VarHandle" ∧ (parseMethodDescriptor y.desc).map (fun d => d.parameters.length) = some n) (hR : rm.frames + 1 ≤ R.frames ∧ 8 + (maxL + 11) + rm.locals ≤ R.locals)
    (hK : va_K (dC, dI) vwCl [(cA, .int)] s) (hP : va_P (dC, dI) vwCl wd H) (hc : vwCl[ci]? = some qc) (he : wd[0]? = some (b, .inr (ci, fs))) (hn : As.length = n) (hsz : ls.size = nL) (hst : st0 = As.reverse ++ .ref b :: rest) (hroom : (rest.map fun v => v.category).sum ≤ 8) (hdg : decode cc pc = .ok (.invokevirtual index, 3)) (hcs : cells + 0 ≤ R.cells ∧ slots + 0 ≤ R.slots)
    (kk : W p l e R s m args below meth c H locs cells slots Q (F0 m (pc + 3) ls (.int r :: rest))) : W p l e R s m args below meth c H locs cells slots Q (F0 m pc ls st0) := by
  subst hst
  exact W.callR (W.runV S hM (cwV n S.2.2.2.2 hG hw hrm.1 hrm.2 hd hR) ⟨PR_blind, va_recv hK hP hc he, fun U hU hW => ⟨rfl, by rw [hU]; exact hP, va_K.moved hW.alike hK⟩⟩ rfl hn hsz rfl (lv_room hroom) hdg hcs) kk
/-- a call that reads: a static method of numbers alone -/
theorem rd_S {r : Int32} (S : CallFix p m c cc nL s args Ts own) (hM : Met l y ws rm (PS As) (QcRead r) 0 0 (fun _ => False)) (hG : GoodIn Ts (va_wsS own index y ws)) (hw : ws = Cond.code y bytes maxL ret :: ws') (hrm : rm.cells = 0 ∧ rm.slots = 0)
    (hd : y.cls ≠ "java/lang/invoke/MethodHandle" ∧ y.cls ≠ "java/lang/invoke/VarHandle" ∧ (parseMethodDescriptor y.desc).map (fun d => d.parameters.length) = some n) (hR : rm.frames + 1 ≤ R.frames ∧ 8 + (maxL + 11) + rm.locals ≤ R.locals)
    (hn : As.length = n) (hsz : ls.size = nL) (hst : st0 = As.reverse ++ rest) (hroom : (rest.map fun v => v.category).sum ≤ 8) (hdg : decode cc pc = .ok (.invokestatic index, 3)) (hcs : cells + 0 ≤ R.cells ∧ slots + 0 ≤ R.slots)
    (kk : W p l e R s m args below meth c H locs cells slots Q (F0 m (pc + 3) ls (.int r :: rest))) : W p l e R s m args below meth c H locs cells slots Q (F0 m pc ls st0) := by
  subst hst
  exact W.callR (W.runS S hM (va_cwS n S.2.2.2.2 hG hw hrm.1 hrm.2 hd hR) ⟨PS_blind, fun U hU hW => ⟨rfl, trivial⟩⟩ rfl hn hsz rfl (lv_room hroom) hdg hcs) kk
/-- a call that writes: an object's method with an int answer; its cells are some of the world's, the rest stays -/
theorem wr_Vi {b : Nat} {r : Int32} {ci : Nat} {qc : vw_C} {fs : List Value} {wall wr wd' : va_W} {A0 : Nat → Prop} {H0 : Heap} (S : CallFix p m c cc nL s args Ts own) (hM : Met l y ws rm (PW (.ref b :: As) dC dI cA wd H.size) (QWi dC dI r wd wd' H.size) 0 0 (va_A wd H.size)) (hG : GoodIn Ts (wsV own index qc.1 y ws)) (hw : ws = Cond.code y bytes maxL ret :: ws') (hrm : rm.cells = 0 ∧ rm.slots = 0)
    (hd : y.cls = qc.1 ∧ y.cls ≠ "java/lang/invoke/MethodHandle" ∧ y.cls ≠ "java/lang/invoke/VarHandle" ∧ (parseMethodDescriptor y.desc).map (fun d => d.parameters.length) = some n) (hR : rm.frames + 1 ≤ R.frames ∧ 8 + (maxL + 11) + rm.locals ≤ R.locals)
    (hK : va_K (dC, dI) vwCl [(cA, .int)] s) (hP : va_P (dC, dI) vwCl wall H) (hD : va_D A0 wall) (hS : va_S A0 H0 H locs) (hA : ∀ q, H0.size ≤ q → A0 q) (isC isR : List Nat) (hC : isC.map (fun i => wall[i]?) = wd.map some) (hRr : isR.map (fun i => wall[i]?) = wr.map some) (hnC : va_nd isC = true) (hnR : va_nd isR = true) (hdis : ∀ i ∈ isR, i ∉ isC) (hsame : wd'.map (fun q => q.1) = wd.map (fun q => q.1))
    (hc : vwCl[ci]? = some qc) (he : wd[0]? = some (b, .inr (ci, fs))) (hn : As.length = n) (hsz : ls.size = nL) (hst : st0 = As.reverse ++ .ref b :: rest) (hroom : (rest.map fun v => v.category).sum ≤ 8) (hdg : decode cc pc = .ok (.invokevirtual index, 3)) (hcs : cells + 0 ≤ R.cells ∧ slots + 0 ≤ R.slots)
    (kk : ∀ (H1 : Heap) (locs1 : List Loc), va_P (dC, dI) vwCl (wr ++ wd') H1 → va_D A0 (wr ++ wd') → va_S A0 H0 H1 locs1 → W p l e R s m args below meth c H1 locs1 cells slots Q (F0 m (pc + 3) ls (.int r :: rest))) : W p l e R s m args below meth c H locs cells slots Q (F0 m pc ls st0) := by
  subst hst
  have hDc : va_D A0 wd := hD.sub isC hnC hC
  have hPc : va_P (dC, dI) vwCl wd H := by
    refine hP.sub isC ?_
    have h1 : isC.filterMap (fun i => wall[i]?) = (isC.map (fun i => wall[i]?)).filterMap id := by rw [List.filterMap_map]; rfl
    rw [h1, hC, List.filterMap_map]
    simp
  have hFc := va_free (wc := wd) hD hS hA isC hC
  refine va_calli (va_runV S hM (cwV n S.2.2.2.2 hG hw hrm.1 hrm.2 hd hR) ⟨PW_blind, va_recv hK hPc hc he, fun U hU hW => ⟨rfl, by rw [hU], by rw [hU]; exact hPc, va_K.moved hW.alike hK, hDc.weaken (fun _ _ _ _ => trivial)⟩⟩ rfl hn hsz rfl (lv_room hroom) hdg hcs) hS (fun q _ h => hFc q h) hFc (fun r2 u t H1 locs1 ht hvm hw2 hB hz1 hk1 hS1 => ?_)
  subst hw2
  rw [ht] at hB
  obtain ⟨hP2, hD2⟩ := va_join (wr := wr) (w1 := wd') hP hD isC isR hC hRr hnR hdis hk1 hFc hB (D_same (hDc.self (sz := H.size)) hsame)
  exact kk H1 locs1 hP2 hD2 hS1
/-- the same, void -/
theorem wr_Vv {b : Nat} {ci : Nat} {qc : vw_C} {fs : List Value} {wall wr wd' : va_W} {A0 : Nat → Prop} {H0 : Heap} (S : CallFix p m c cc nL s args Ts own) (hM : Met l y ws rm (PW (.ref b :: As) dC dI cA wd H.size) (QWv dC dI wd wd' H.size) 0 0 (va_A wd H.size)) (hG : GoodIn Ts (wsV own index qc.1 y ws)) (hw : ws = Cond.code y bytes maxL ret :: ws') (hrm : rm.cells = 0 ∧ rm.slots = 0)
    (hd : y.cls = qc.1 ∧ y.cls ≠ "java/lang/invoke/MethodHandle" ∧ y.cls ≠ "java/lang/invoke/VarHandle" ∧ (parseMethodDescriptor y.desc).map (fun d => d.parameters.length) = some n) (hR : rm.frames + 1 ≤ R.frames ∧ 8 + (maxL + 11) + rm.locals ≤ R.locals)
    (hK : va_K (dC, dI) vwCl [(cA, .int)] s) (hP : va_P (dC, dI) vwCl wall H) (hD : va_D A0 wall) (hS : va_S A0 H0 H locs) (hA : ∀ q, H0.size ≤ q → A0 q) (isC isR : List Nat) (hC : isC.map (fun i => wall[i]?) = wd.map some) (hRr : isR.map (fun i => wall[i]?) = wr.map some) (hnC : va_nd isC = true) (hnR : va_nd isR = true) (hdis : ∀ i ∈ isR, i ∉ isC) (hsame : wd'.map (fun q => q.1) = wd.map (fun q => q.1))
    (hc : vwCl[ci]? = some qc) (he : wd[0]? = some (b, .inr (ci, fs))) (hn : As.length = n) (hsz : ls.size = nL) (hst : st0 = As.reverse ++ .ref b :: rest) (hroom : (rest.map fun v => v.category).sum ≤ 8) (hdg : decode cc pc = .ok (.invokevirtual index, 3)) (hcs : cells + 0 ≤ R.cells ∧ slots + 0 ≤ R.slots)
    (kk : ∀ (H1 : Heap) (locs1 : List Loc), va_P (dC, dI) vwCl (wr ++ wd') H1 → va_D A0 (wr ++ wd') → va_S A0 H0 H1 locs1 → W p l e R s m args below meth c H1 locs1 cells slots Q (F0 m (pc + 3) ls rest)) : W p l e R s m args below meth c H locs cells slots Q (F0 m pc ls st0) := by
  subst hst
  have hDc : va_D A0 wd := hD.sub isC hnC hC
  have hPc : va_P (dC, dI) vwCl wd H := by
    refine hP.sub isC ?_
    have h1 : isC.filterMap (fun i => wall[i]?) = (isC.map (fun i => wall[i]?)).filterMap id := by rw [List.filterMap_map]; rfl
    rw [h1, hC, List.filterMap_map]
    simp
  have hFc := va_free (wc := wd) hD hS hA isC hC
  refine va_callv (va_runV S hM (cwV n S.2.2.2.2 hG hw hrm.1 hrm.2 hd hR) ⟨PW_blind, va_recv hK hPc hc he, fun U hU hW => ⟨rfl, by rw [hU], by rw [hU]; exact hPc, va_K.moved hW.alike hK, hDc.weaken (fun _ _ _ _ => trivial)⟩⟩ rfl hn hsz rfl (lv_room hroom) hdg hcs) hS (fun q _ h => hFc q h) hFc (fun u t H1 locs1 ht hvm hw2 hB hz1 hk1 hS1 => ?_)
  rw [ht] at hB
  obtain ⟨hP2, hD2⟩ := va_join (wr := wr) (w1 := wd') hP hD isC isR hC hRr hnR hdis hk1 hFc hB (D_same (hDc.self (sz := H.size)) hsame)
  exact kk H1 locs1 hP2 hD2 hS1
/-- a static method that writes and answers nothing -/
theorem wr_Sv {wall wr wd' : va_W} {A0 : Nat → Prop} {H0 : Heap} (S : CallFix p m c cc nL s args Ts own) (hM : Met l y ws rm (PW As dC dI cA wd H.size) (QWv dC dI wd wd' H.size) 0 0 (va_A wd H.size)) (hG : GoodIn Ts (va_wsS own index y ws)) (hw : ws = Cond.code y bytes maxL ret :: ws') (hrm : rm.cells = 0 ∧ rm.slots = 0)
    (hd : y.cls ≠ "java/lang/invoke/MethodHandle" ∧ y.cls ≠ "java/lang/invoke/VarHandle" ∧ (parseMethodDescriptor y.desc).map (fun d => d.parameters.length) = some n) (hR : rm.frames + 1 ≤ R.frames ∧ 8 + (maxL + 11) + rm.locals ≤ R.locals)
    (hK : va_K (dC, dI) vwCl [(cA, .int)] s) (hP : va_P (dC, dI) vwCl wall H) (hD : va_D A0 wall) (hS : va_S A0 H0 H locs) (hA : ∀ q, H0.size ≤ q → A0 q) (isC isR : List Nat) (hC : isC.map (fun i => wall[i]?) = wd.map some) (hRr : isR.map (fun i => wall[i]?) = wr.map some) (hnC : va_nd isC = true) (hnR : va_nd isR = true) (hdis : ∀ i ∈ isR, i ∉ isC) (hsame : wd'.map (fun q => q.1) = wd.map (fun q => q.1))
    (hn : As.length = n) (hsz : ls.size = nL) (hst : st0 = As.reverse ++ rest) (hroom : (rest.map fun v => v.category).sum ≤ 8) (hdg : decode cc pc = .ok (.invokestatic index, 3)) (hcs : cells + 0 ≤ R.cells ∧ slots + 0 ≤ R.slots)
    (kk : ∀ (H1 : Heap) (locs1 : List Loc), va_P (dC, dI) vwCl (wr ++ wd') H1 → va_D A0 (wr ++ wd') → va_S A0 H0 H1 locs1 → W p l e R s m args below meth c H1 locs1 cells slots Q (F0 m (pc + 3) ls rest)) : W p l e R s m args below meth c H locs cells slots Q (F0 m pc ls st0) := by
  subst hst
  have hDc : va_D A0 wd := hD.sub isC hnC hC
  have hPc : va_P (dC, dI) vwCl wd H := by
    refine hP.sub isC ?_
    have h1 : isC.filterMap (fun i => wall[i]?) = (isC.map (fun i => wall[i]?)).filterMap id := by rw [List.filterMap_map]; rfl
    rw [h1, hC, List.filterMap_map]
    simp
  have hFc := va_free (wc := wd) hD hS hA isC hC
  refine va_callv (va_runS S hM (va_cwS n S.2.2.2.2 hG hw hrm.1 hrm.2 hd hR) ⟨PW_blind, fun U hU hW => ⟨rfl, by rw [hU], by rw [hU]; exact hPc, va_K.moved hW.alike hK, hDc.weaken (fun _ _ _ _ => trivial)⟩⟩ rfl hn hsz rfl (lv_room hroom) hdg hcs) hS (fun q _ h => hFc q h) hFc (fun u t H1 locs1 ht hvm hw2 hB hz1 hk1 hS1 => ?_)
  rw [ht] at hB
  obtain ⟨hP2, hD2⟩ := va_join (wr := wr) (w1 := wd') hP hD isC isR hC hRr hnR hdis hk1 hFc hB (D_same (hDc.self (sz := H.size)) hsame)
  exact kk H1 locs1 hP2 hD2 hS1
end RD
end
section
-- what the methods answer and do, in numbers; each mirrors its code
def bI (b : Bool) : Int32 := if b = true then 1 else 0
theorem bI_nz {b : Bool} (h : ¬ bI b = 0) : b = true := by cases b with | true => rfl | false => exact absurd rfl h
theorem bI_z {b : Bool} (h : bI b = 0) : b = false := by cases b with | false => rfl | true => exact absurd h (by decide)
theorem bI_1 {b : Bool} (h : b = true) : (1 : Int32) = bI b := by subst h; rfl
theorem bI_0 {b : Bool} (h : b = false) : (0 : Int32) = bI b := by subst h; rfl
theorem nar_bI (b : Bool) : narrow .boolean (.int (bI b)) = .int (bI b) := by cases b <;> decide
def bitsI (q : Nat → Bool) : Nat → Int32
  | 0 => 0
  | k + 1 => if q k = true then bitsI q k ||| ((1 : Int32) <<< (nI k &&& 31)) else bitsI q k
theorem bitsI_t {q : Nat → Bool} {k : Nat} (h : q k = true) : bitsI q (k + 1) = bitsI q k ||| ((1 : Int32) <<< (nI k &&& 31)) := if_pos h
theorem bitsI_f {q : Nat → Bool} {k : Nat} (h : q k = false) : bitsI q (k + 1) = bitsI q k := if_neg (by rw [h]; decide)
def cntI (q : Nat → Bool) : Nat → Int32
  | 0 => 0
  | k + 1 => if q k = true then cntI q k + 1 else cntI q k
theorem cntI_t {q : Nat → Bool} {k : Nat} (h : q k = true) : cntI q (k + 1) = cntI q k + 1 := if_pos h
theorem cntI_f {q : Nat → Bool} {k : Nat} (h : q k = false) : cntI q (k + 1) = cntI q k := if_neg (by rw [h]; decide)
def fillI (f : Nat → Int32) (v : Int32) : Nat → (Nat → Int32)
  | 0 => f
  | k + 1 => upd (fillI f v k) k v
-- X0: BranchTimes
def xG (g : Int32) : Bool := !decide (g < 0) && !decide (8 ≤ g)
def xSrc (q : Int32) : Bool := !decide (q < 0) && !decide (16 ≤ q)
def xBr (q : Int32) : Bool := decide (q = -1) || xSrc q
def xPl (g q : Int32) : Int32 := g * 17 + (if q = -1 then 16 else q)
def xCp (g q : Int32) : Int32 := g * 16 + q
def xBit (b q : Int32) : Bool := !decide ((b >>> (q &&& 31)) &&& 1 = 0)
def xSt (tm t : Int32) : Bool := !decide (t ≤ tm)
def xTz (tm t : Int32) : Int32 := if xSt tm t = true then t else 0
def xNbq (tm : Int32) (fN : Nat → Int32) : Nat → Bool := fun n => xSt tm (fN n)
def xNb (tm : Int32) (fN : Nat → Int32) : Int32 := bitsI (xNbq tm fN) 10
def xFirst (me nb : Int32) : Bool := decide (nb >>> ((me + 1) &&& 31) = 0)
def xAsk (me nb : Int32) : Bool := decide (nb &&& (((1 : Int32) <<< (me &&& 31)) - 1) = 0)
def bc1 (x : Int32) : Int32 := x - ((x.toUInt32 >>> ((1 : Int32).toUInt32 &&& Int32.toUInt32 31)).toInt32 &&& 1431655765)
def bc2 (x : Int32) : Int32 := (x &&& 858993459) + ((x.toUInt32 >>> ((2 : Int32).toUInt32 &&& Int32.toUInt32 31)).toInt32 &&& 858993459)
def bc3 (x : Int32) : Int32 := (x + (x.toUInt32 >>> ((4 : Int32).toUInt32 &&& Int32.toUInt32 31)).toInt32) &&& 252645135
def bc4 (x : Int32) : Int32 := x + (x.toUInt32 >>> ((8 : Int32).toUInt32 &&& Int32.toUInt32 31)).toInt32
def bc5 (x : Int32) : Int32 := x + (x.toUInt32 >>> ((16 : Int32).toUInt32 &&& Int32.toUInt32 31)).toInt32
def bcI (x : Int32) : Int32 := bc5 (bc4 (bc3 (bc2 (bc1 x)))) &&& 63
def xCrowd (nb : Int32) : Bool := !decide (bcI nb < 2)
def xEff (tm nb : Int32) : Int32 := if xCrowd nb = true then tm + 3 else tm
def xStar (tm : Int32) (fJ : Nat → Int32) (g : Int32) : Bool := xSt tm (fJ (xPl g (-1)).toNatClampNeg)
def xCut (tm : Int32) (fT fC : Nat → Int32) (g q : Int32) : Bool := xBit (fT g.toNatClampNeg) q && !decide (tm < fC (xCp g q).toNatClampNeg)
def xGoq (tm : Int32) (fJ fT fC : Nat → Int32) (g : Int32) : Nat → Bool := fun k => (xStar tm fJ g && !xCut tm fT fC g (nI k)) || xSt tm (fJ (xPl g (nI k)).toNatClampNeg)
def xGo (me tm : Int32) (fN fM fJ fT fC : Nat → Int32) (g : Int32) : Int32 := if (xSt tm (fM g.toNatClampNeg) && xFirst me (xNb tm fN)) = true then 65535 else bitsI (xGoq tm fJ fT fC g) 16
def xGrq (me tm : Int32) (fN fM fJ fT fC : Nat → Int32) : Nat → Bool := fun k => !decide (xGo me tm fN fM fJ fT fC (nI k) = 0)
def xGr (me tm : Int32) (fN fM fJ fT fC : Nat → Int32) : Int32 := bitsI (xGrq me tm fN fM fJ fT fC) 8
def xCnt (tm : Int32) (fJ : Nat → Int32) : Int32 := cntI (xNbq tm fJ) 136
def xTickB (tm n : Int32) : Bool := decide (n < 1) || decide (100 < n) || !decide (tm + n ≤ 100000)
def xTickR (tm n : Int32) : Int32 := if xTickB tm n = true then -1 else tm + n
def xTickT (tm n : Int32) : Int32 := if xTickB tm n = true then tm else tm + n
def xHeB (me n : Int32) : Bool := decide (n < 0) || decide (10 ≤ n) || decide (n = me)
def xHeN (me tm : Int32) (fN : Nat → Int32) (n : Int32) : Nat → Int32 := if xHeB me n = true then fN else upd fN n.toNatClampNeg (tm + 65)
def xReM (tm : Int32) (fM : Nat → Int32) (g : Int32) : Nat → Int32 := if xG g = true then upd fM g.toNatClampNeg (tm + 60) else fM
def xLeB (me tm : Int32) (fN fM : Nat → Int32) (g : Int32) : Bool := xG g && xSt tm (fM g.toNatClampNeg) && xAsk me (xNb tm fN)
def xMin (x y : Int32) : Int32 := if y < x then y else x
def xMax (x y : Int32) : Int32 := if x < y then y else x
def xLeM (me tm : Int32) (fN fM : Nat → Int32) (g : Int32) : Nat → Int32 := if xLeB me tm fN fM g = true then upd fM g.toNatClampNeg (xMin (fM g.toNatClampNeg) (tm + 4)) else fM
def xCutsI (fC : Nat → Int32) (g fr fo : Int32) : Nat → (Nat → Int32)
  | 0 => fC
  | k + 1 => if xBit fr (nI k) = true then upd (xCutsI fC g fr fo k) (xCp g (nI k)).toNatClampNeg fo else xCutsI fC g fr fo k
theorem xCutsI_t {fC : Nat → Int32} {g fr fo : Int32} {k : Nat} (h : xBit fr (nI k) = true) : xCutsI fC g fr fo (k + 1) = upd (xCutsI fC g fr fo k) (xCp g (nI k)).toNatClampNeg fo := if_pos h
theorem xCutsI_f {fC : Nat → Int32} {g fr fo : Int32} {k : Nat} (h : xBit fr (nI k) = false) : xCutsI fC g fr fo (k + 1) = xCutsI fC g fr fo k := if_neg (by rw [h]; decide)
def xBefore (tm : Int32) (fJ fT : Nat → Int32) (g : Int32) : Int32 := if xStar tm fJ g = true then fT g.toNatClampNeg else 0
def xTellC (tm : Int32) (fN fJ fT fC : Nat → Int32) (g bits : Int32) : Nat → Int32 := xCutsI fC g (bits &&& (xBefore tm fJ fT g ^^^ (-1))) (xEff tm (xNb tm fN)) 16
def xJoB (g q : Int32) : Bool := xG g && xBr q
def xJoS (g q : Int32) : Bool := xJoB g q && decide (q = -1)
def xJoJ (tm : Int32) (fJ : Nat → Int32) (g q : Int32) : Nat → Int32 := if xJoB g q = true then upd fJ (xPl g q).toNatClampNeg (tm + 70) else fJ
def xJoT (fT : Nat → Int32) (g q bits : Int32) : Nat → Int32 := if xJoS g q = true then upd fT g.toNatClampNeg (bits &&& 65535) else fT
def xJoC (tm : Int32) (fN fJ fT fC : Nat → Int32) (g q bits : Int32) : Nat → Int32 := if xJoS g q = true then xTellC tm fN fJ fT fC g (bits &&& 65535) else fC
def xPrB (tm : Int32) (fJ : Nat → Int32) (g q : Int32) : Bool := xJoB g q && xSt tm (fJ (xPl g q).toNatClampNeg)
def xPrJ (tm : Int32) (fN fJ : Nat → Int32) (g q : Int32) : Nat → Int32 := if xPrB tm fJ g q = true then upd fJ (xPl g q).toNatClampNeg (xMin (fJ (xPl g q).toNatClampNeg) (xEff tm (xNb tm fN))) else fJ
def xJd (tm : Int32) (fJ : Nat → Int32) (g q : Int32) : Int32 := if xJoB g q = true then xTz tm (fJ (xPl g q).toNatClampNeg) else -1
def xCu (tm : Int32) (fJ fT fC : Nat → Int32) (g q : Int32) : Int32 := if (xG g && xSrc q) = true then (if (xStar tm fJ g && xBit (fT g.toNatClampNeg) q) = true then fC (xCp g q).toNatClampNeg else 0) else -1
def xMe (tm : Int32) (fM : Nat → Int32) (g : Int32) : Int32 := if xG g = true then xTz tm (fM g.toNatClampNeg) else -1
def xGoes (me tm : Int32) (fN fM fJ fT fC : Nat → Int32) (g : Int32) : Int32 := if xG g = true then xGo me tm fN fM fJ fT fC g else -1
def xLook (me tm : Int32) (fN fM fJ fT fC : Nat → Int32) (w : Int32) : Int32 := if w = 0 then tm else if w = 1 then xNb tm fN else if w = 2 then bI (xFirst me (xNb tm fN)) else if w = 3 then bI (xAsk me (xNb tm fN)) else if w = 4 then bI (xCrowd (xNb tm fN)) else if w = 5 then me else if w = 6 then xGr me tm fN fM fJ fT fC else if w = 7 then xCnt tm fJ else -1
def xMe0 (me : Int32) : Int32 := xMax 0 (xMin 9 me)
-- X1: the reference
def mBr (g q : Int32) : Bool := xG g && !decide (q < -1) && !decide (16 ≤ q)
def mNbq (tm : Int32) (hA : Nat → Int32) : Nat → Bool := fun n => !decide (hA n = -1) && !decide (hA n + 65 ≤ tm)
def mNb (tm : Int32) (hA : Nat → Int32) : Int32 := bitsI (mNbq tm hA) 10
def mFirst (me nb : Int32) : Bool := decide (nb >>> (me &&& 31) = 0)
def mAsk (me nb : Int32) : Bool := decide (nb - nb / ((1 : Int32) <<< (me &&& 31)) * ((1 : Int32) <<< (me &&& 31)) = 0)
def mCntN : Nat → Nat → Nat
  | 0, _ => 0
  | k + 1, b => b % 2 + mCntN k (b / 2)
def mCrowd (nb : Int32) : Bool := !decide (nI (mCntN 10 nb.toNatClampNeg) ≤ 1)
def mT (tm at_ span pr : Int32) : Int32 := if at_ = -1 then 0 else (if (if at_ + span ≤ pr then at_ + span else pr) ≤ tm then 0 else (if at_ + span ≤ pr then at_ + span else pr))
def mMt (tm : Int32) (rA lT : Nat → Int32) (g : Int32) : Int32 := mT tm (rA g.toNatClampNeg) 60 (lT g.toNatClampNeg)
def mPl (g q : Int32) : Int32 := 17 * g + q + 1
def mCp (g q : Int32) : Int32 := 16 * g + q
def mTi (tm : Int32) (jA pT : Nat → Int32) (g q : Int32) : Int32 := mT tm (jA (mPl g q).toNatClampNeg) 70 (pT (mPl g q).toNatClampNeg)
def mHeB (me n : Int32) : Bool := decide (n < 0) || decide (9 < n) || decide (n = me)
def mHeA (me tm : Int32) (hA : Nat → Int32) (n : Int32) : Nat → Int32 := if mHeB me n = true then hA else upd hA n.toNatClampNeg tm
def mReA (tm : Int32) (rA : Nat → Int32) (g : Int32) : Nat → Int32 := if xG g = true then upd rA g.toNatClampNeg tm else rA
def mReT (lT : Nat → Int32) (g : Int32) : Nat → Int32 := if xG g = true then upd lT g.toNatClampNeg 1000000 else lT
def mLeB (me tm : Int32) (hA rA lT : Nat → Int32) (g : Int32) : Bool := xG g && !decide (mMt tm rA lT g = 0) && mAsk me (mNb tm hA)
def mMin (y x : Int32) : Int32 := if x ≤ y then x else y
def mLeT (me tm : Int32) (hA rA lT : Nat → Int32) (g : Int32) : Nat → Int32 := if mLeB me tm hA rA lT g = true then upd lT g.toNatClampNeg (mMin (tm + 4) (lT g.toNatClampNeg)) else lT
def mMe (tm : Int32) (rA lT : Nat → Int32) (g : Int32) : Int32 := if xG g = true then mMt tm rA lT g else -1
def mEff (tm nb : Int32) : Int32 := if mCrowd nb = true then tm + 3 else tm
def mWas (tm : Int32) (jA pT : Nat → Int32) (g q : Int32) : Bool := !decide (mTi tm jA pT g q ≤ 0)
def mTold (bits : Int32) (k : Nat) : Bool := decide ((bits >>> (nI k &&& 31)) &&& 1 = 1)
def mCutsI (was : Bool) (cF : Nat → Int32) (g bits fo : Int32) : Nat → (Nat → Int32)
  | 0 => cF
  | k + 1 => if mTold bits k = true then (if (!was || decide (mCutsI was cF g bits fo k (mCp g (nI k)).toNatClampNeg = -1)) = true then upd (mCutsI was cF g bits fo k) (mCp g (nI k)).toNatClampNeg fo else mCutsI was cF g bits fo k) else upd (mCutsI was cF g bits fo k) (mCp g (nI k)).toNatClampNeg (-1)
def mJoS (g q : Int32) : Bool := mBr g q && decide (q = -1)
def mJoA (tm : Int32) (jA : Nat → Int32) (g q : Int32) : Nat → Int32 := if mBr g q = true then upd jA (mPl g q).toNatClampNeg tm else jA
def mJoP (pT : Nat → Int32) (g q : Int32) : Nat → Int32 := if mBr g q = true then upd pT (mPl g q).toNatClampNeg 1000000 else pT
def mJoC (tm : Int32) (hA jA pT cF : Nat → Int32) (g q bits : Int32) : Nat → Int32 := if mJoS g q = true then mCutsI (mWas tm jA pT g q) cF g bits (mEff tm (mNb tm hA)) 16 else cF
def mPrB (tm : Int32) (jA pT : Nat → Int32) (g q : Int32) : Bool := mBr g q && !decide (mTi tm jA pT g q = 0)
def mPrP (tm : Int32) (hA jA pT : Nat → Int32) (g q : Int32) : Nat → Int32 := if mPrB tm jA pT g q = true then upd pT (mPl g q).toNatClampNeg (mMin (mEff tm (mNb tm hA)) (pT (mPl g q).toNatClampNeg)) else pT
def mJd (tm : Int32) (jA pT : Nat → Int32) (g q : Int32) : Int32 := if mBr g q = true then mTi tm jA pT g q else -1
def mCu (tm : Int32) (jA pT cF : Nat → Int32) (g q : Int32) : Int32 := if (mBr g q && !decide (q = -1)) = true then (if (decide (mTi tm jA pT g (-1) = 0) || decide (cF (mCp g q).toNatClampNeg = -1)) = true then 0 else cF (mCp g q).toNatClampNeg) else -1
def mCut (tm : Int32) (cF : Nat → Int32) (g q : Int32) : Bool := !decide (cF (mCp g q).toNatClampNeg = -1) && !decide (tm < cF (mCp g q).toNatClampNeg)
def mOwn (me tm : Int32) (hA rA lT : Nat → Int32) (g : Int32) : Bool := !decide (mMt tm rA lT g ≤ 0) && mFirst me (mNb tm hA)
def mGoq (own : Bool) (tm : Int32) (jA pT cF : Nat → Int32) (g : Int32) : Nat → Bool := fun k => own || decide (0 < mTi tm jA pT g (nI k)) || (!decide (mTi tm jA pT g (-1) ≤ 0) && !mCut tm cF g (nI k))
def mGoes (me tm : Int32) (hA rA lT jA pT cF : Nat → Int32) (g : Int32) : Int32 := if xG g = true then bitsI (mGoq (mOwn me tm hA rA lT g) tm jA pT cF g) 16 else -1
def mGrq (me tm : Int32) (hA rA lT jA pT cF : Nat → Int32) : Nat → Bool := fun k => !decide (mGoes me tm hA rA lT jA pT cF (nI k) = 0)
def mGr (me tm : Int32) (hA rA lT jA pT cF : Nat → Int32) : Int32 := bitsI (mGrq me tm hA rA lT jA pT cF) 8
def mDv (k : Nat) : Int32 := nI k / 17
def mMd (k : Nat) : Int32 := (nI k - nI k / 17 * 17) - 1
def mCnq (tm : Int32) (jA pT : Nat → Int32) : Nat → Bool := fun k => !decide (mTi tm jA pT (mDv k) (mMd k) ≤ 0)
def mCnt (tm : Int32) (jA pT : Nat → Int32) : Int32 := cntI (mCnq tm jA pT) 136
def mLook (me tm : Int32) (hA rA lT jA pT cF : Nat → Int32) (w : Int32) : Int32 := if w = 0 then tm else if w = 1 then mNb tm hA else if w = 2 then bI (mFirst me (mNb tm hA)) else if w = 3 then bI (mAsk me (mNb tm hA)) else if w = 4 then bI (mCrowd (mNb tm hA)) else if w = 5 then me else if w = 6 then mGr me tm hA rA lT jA pT cF else if w = 7 then mCnt tm jA pT else -1
def mMe0 (me : Int32) : Int32 := if 0 ≤ me then (if me ≤ 9 then me else 9) else 0
-- places in range
theorem toI_lt {x y : Int32} : x < y ↔ x.toInt < y.toInt := Int32.lt_iff_toInt_lt
theorem toI_le {x y : Int32} : x ≤ y ↔ x.toInt ≤ y.toInt := Int32.le_iff_toInt_le
theorem xG_of {g : Int32} (h : xG g = true) : ∃ j : Nat, j < 8 ∧ g = nI j := by
  unfold xG at h
  simp only [Bool.and_eq_true, Bool.not_eq_true', decide_eq_false_iff_not] at h
  rcases pk_ix g (n := 8) (by decide) with a | a | a
  · exact absurd a h.1
  · exact absurd a h.2
  · exact a
theorem xSrc_of {g : Int32} (h : xSrc g = true) : ∃ j : Nat, j < 16 ∧ g = nI j := by
  unfold xSrc at h
  simp only [Bool.and_eq_true, Bool.not_eq_true', decide_eq_false_iff_not] at h
  rcases pk_ix g (n := 16) (by decide) with a | a | a
  · exact absurd a h.1
  · exact absurd a h.2
  · exact a
theorem xG_nI {j : Nat} (h : j < 8) : xG (nI j) = true := co_dec (N := 8) (P := fun j => xG (nI j) = true) (by decide +kernel) h
theorem xSrc_nI {j : Nat} (h : j < 16) : xSrc (nI j) = true := co_dec (N := 16) (P := fun j => xSrc (nI j) = true) (by decide +kernel) h
theorem G_in {g : Int32} (h : xG g = true) : vp_in g 8 := by
  obtain ⟨j, hj, rfl⟩ := xG_of h
  exact vp_in_nI hj (by decide)
theorem Src_ne {q : Int32} (h : xSrc q = true) : ¬ q = -1 := by
  obtain ⟨j, hj, rfl⟩ := xSrc_of h
  exact co_dec (N := 16) (P := fun j => ¬ nI j = -1) (by decide +kernel) hj
theorem Br_src {q : Int32} (h : xSrc q = true) : xBr q = true := by unfold xBr; rw [h]; simp
theorem Pl_nI {j i : Nat} (hi : i < 16) : xPl (nI j) (nI i) = nI (j * 17 + i) := by
  unfold xPl
  rw [if_neg (Src_ne (xSrc_nI hi))]
  exact (congrArg (fun z => z + nI i) (pk_mul j 17)).trans (nI_add _ _)
theorem Pl_st {j : Nat} : xPl (nI j) (-1) = nI (j * 17 + 16) := by
  unfold xPl
  rw [if_pos rfl]
  exact (congrArg (fun z => z + (16 : Int32)) (pk_mul j 17)).trans (nI_add _ 16)
theorem Cp_nI {j i : Nat} : xCp (nI j) (nI i) = nI (j * 16 + i) := (congrArg (fun z => z + nI i) (pk_mul j 16)).trans (nI_add _ _)
theorem Pl_in {g q : Int32} (h : xG g = true) (hq : xBr q = true) : vp_in (xPl g q) 136 := by
  obtain ⟨j, hj, rfl⟩ := xG_of h
  unfold xBr at hq
  simp only [Bool.or_eq_true, decide_eq_true_eq] at hq
  rcases hq with rfl | hq
  · rw [Pl_st]; exact vp_in_nI (by omega) (by decide)
  · obtain ⟨i, hi, rfl⟩ := xSrc_of hq
    rw [Pl_nI hi]; exact vp_in_nI (by omega) (by decide)
theorem Cp_in {g q : Int32} (h : xG g = true) (hq : xSrc q = true) : vp_in (xCp g q) 128 := by
  obtain ⟨j, hj, rfl⟩ := xG_of h
  obtain ⟨i, hi, rfl⟩ := xSrc_of hq
  rw [Cp_nI]; exact vp_in_nI (by omega) (by decide)
theorem He_in {n me : Int32} (h : xHeB me n = false) : vp_in n 10 := by
  unfold xHeB at h
  simp only [Bool.or_eq_false_iff, decide_eq_false_iff_not] at h
  rcases pk_ix n (n := 10) (by decide) with a | a | ⟨j, hj, rfl⟩
  · exact absurd a h.1.1
  · exact absurd a h.1.2
  · exact vp_in_nI hj (by decide)
theorem mCp_eq (g q : Int32) : mCp g q = xCp g q := by unfold mCp xCp; rw [Int32.mul_comm]
theorem mBr_G {g q : Int32} (h : mBr g q = true) : xG g = true := by
  unfold mBr at h
  simp only [Bool.and_eq_true] at h
  exact h.1.1
theorem mBr_of {g q : Int32} (h : mBr g q = true) : q = -1 ∨ ∃ i : Nat, i < 16 ∧ q = nI i := by
  unfold mBr at h
  simp only [Bool.and_eq_true, Bool.not_eq_true', decide_eq_false_iff_not] at h
  rcases pk_ix q (n := 16) (by decide) with a | a | a
  · left
    have h1 := h.1.2
    rw [toI_lt] at a h1
    refine Int32.toInt_inj.mp ?_
    have e1 : (-1 : Int32).toInt = -1 := by decide
    have e0 : (0 : Int32).toInt = 0 := by decide
    rw [e1] at h1 ⊢
    rw [e0] at a
    omega
  · exact absurd a h.2
  · exact Or.inr a
theorem mPl_nI (j i : Nat) : mPl (nI j) (nI i) = nI (17 * j + i + 1) := by
  unfold mPl
  exact (congrArg (fun z => z + nI i + 1) (pk_mul 17 j)).trans ((congrArg (fun z => z + (1 : Int32)) (nI_add _ _)).trans (nI_1 _))
theorem mPl_st (j : Nat) : mPl (nI j) (-1) = nI (17 * j) := by
  unfold mPl
  have e : (17 : Int32) * nI j = nI (17 * j) := pk_mul 17 j
  rw [e, Int32.add_assoc, show (-1 : Int32) + 1 = 0 by decide, Int32.add_zero]
theorem mPl_in {g q : Int32} (h : mBr g q = true) : vp_in (mPl g q) 136 := by
  obtain ⟨j, hj, rfl⟩ := xG_of (mBr_G h)
  rcases mBr_of h with rfl | ⟨i, hi, rfl⟩
  · rw [mPl_st]; exact vp_in_nI (by omega) (by decide)
  · rw [mPl_nI]; exact vp_in_nI (by omega) (by decide)
theorem mBr_nI {j i : Nat} (hj : j < 8) (hi : i < 16) : mBr (nI j) (nI i) = true := by
  unfold mBr
  rw [xG_nI hj]
  exact co_dec (N := 16) (P := fun i => (true && !decide (nI i < -1) && !decide (16 ≤ nI i)) = true) (by decide +kernel) hi
theorem mBr_st {g : Int32} (hg : xG g = true) : mBr g (-1) = true := by unfold mBr; rw [hg]; decide
theorem mBr_nb {g : Int32} (hg : xG g = true) {i : Nat} (hi : i < 16) : mBr g (nI i) = true := by
  obtain ⟨j, hj, rfl⟩ := xG_of hg
  exact mBr_nI hj hi
theorem mCp_in {g q : Int32} (h : xG g = true) (hq : xSrc q = true) : vp_in (mCp g q) 128 := by rw [mCp_eq]; exact Cp_in h hq
theorem mHe_in {n me : Int32} (h : mHeB me n = false) : vp_in n 10 := by
  unfold mHeB at h
  simp only [Bool.or_eq_false_iff, decide_eq_false_iff_not] at h
  rcases pk_ix n (n := 10) (by decide) with a | a | ⟨j, hj, rfl⟩
  · exact absurd a h.1.1
  · refine absurd ?_ h.1.2
    rw [toI_lt]; rw [toI_le] at a
    have e1 : (nI 10).toInt = 10 := by decide
    have e0 : (9 : Int32).toInt = 9 := by decide
    omega
  · exact vp_in_nI hj (by decide)
end
section
theorem tb_out8 {w : Int32} (h0 : ¬ w = 0) (h1 : ¬ w = 1) (h2 : ¬ w = 2) (h3 : ¬ w = 3) (h4 : ¬ w = 4) (h5 : ¬ w = 5) (h6 : ¬ w = 6) (h7 : ¬ w = 7) : w.toInt < 0 ∨ 7 < w.toInt := by
  have k : ∀ j : Int32, ¬ w = j → w.toInt ≠ j.toInt := fun j h e => h (Int32.toInt_inj.mp e)
  have e0 := k 0 h0
  have e1 := k 1 h1
  have e2 := k 2 h2
  have e3 := k 3 h3
  have e4 := k 4 h4
  have e5 := k 5 h5
  have e6 := k 6 h6
  have e7 := k 7 h7
  rw [show (0 : Int32).toInt = 0 by decide] at e0
  rw [show (1 : Int32).toInt = 1 by decide] at e1
  rw [show (2 : Int32).toInt = 2 by decide] at e2
  rw [show (3 : Int32).toInt = 3 by decide] at e3
  rw [show (4 : Int32).toInt = 4 by decide] at e4
  rw [show (5 : Int32).toInt = 5 by decide] at e5
  rw [show (6 : Int32).toInt = 6 by decide] at e6
  rw [show (7 : Int32).toInt = 7 by decide] at e7
  omega
theorem oneIf_bI (b : Bool) : bI (!decide (bI b = 0)) = bI b := by cases b <;> decide
theorem xBr_m1 : xBr (-1) = true := by decide
end
section
set_option maxHeartbeats 4000000 in
set_option maxRecDepth 100000 in
theorem c_X0_isGroup (l : Launch) (g : Int32) : Met l yX0_isGroup wsX0_isGroup ({ frames := 0, cells := 0, slots := 0, locals := 0 }) (PS [.int g]) (QcRead (bI (xG g))) 0 0 (fun _ => False) := by
  refine Met.ofW (cc := cX0_isGroup) (maxL := 1) (ret := some .boolean) (by decide) rfl ?_
  intro p e s m args below meth c s₁ B hml hv
  obtain ⟨rfl, -⟩ := hv
  have hx := B.exec
  have hb := B.bytes
  have hr := B.returns
  have hts := atoms_spec (ws := wsX0_isGroup) B.pre
  have hown : s.vm.findClass RX0 = some m.cls := findClass_of_methodNamed B.named
  have hlocks := B.notSynchronized
  have S : CallFix p m c cX0_isGroup 1 s ([.int g] : List Value).toArray wsX0_isGroup RX0 := ⟨hx, hb, hml, hown, hts⟩
  have hl := lv_entry ([.int g]) (n := 1) (Nat.le_of_ble_eq_true rfl)
  rw [lg_entry_eq]
  generalize (lg_sl ([.int g]) ++ List.replicate (1 - (lg_sl ([.int g])).length) Slot.unset).toArray = ls at hl ⊢
  have hl : lv_has ls 1 [(0, .int g)] := hl
  refine lv_iload_n hx hb dX0_isGroup_0 rfl (lv_at hl 0 rfl) ?_
  refine lv_if_lt (tgt := 14) hx hb dX0_isGroup_1 (by decide) (fun c1 => ?_) (fun c1 => ?_)
  · refine lv_iconst (v := 0) hx hb dX0_isGroup_14 (by decide) ?_
    have er : (0 : Int32) = bI (xG g) := by simp [xG, bI, c1]
    exact W.zret (v := (0 : Int32)) (ty := .boolean) hx hb hr rfl (fun t ht hW => ⟨congrArg (fun z => Outcome.returned (some (Value.int z))) er, ht⟩) (fun q h => absurd h List.not_mem_nil) dX0_isGroup_15
  · refine lv_iload_n hx hb dX0_isGroup_4 rfl (lv_at hl 0 rfl) ?_
    refine lv_bipush (v := 8) hx hb dX0_isGroup_5 (by decide) ?_
    refine lv_icmp_ge (tgt := 14) hx hb dX0_isGroup_7 (by decide) (fun c7 => ?_) (fun c7 => ?_)
    · refine lv_iconst (v := 0) hx hb dX0_isGroup_14 (by decide) ?_
      have er : (0 : Int32) = bI (xG g) := by simp [xG, bI, c1, c7]
      exact W.zret (v := (0 : Int32)) (ty := .boolean) hx hb hr rfl (fun t ht hW => ⟨congrArg (fun z => Outcome.returned (some (Value.int z))) er, ht⟩) (fun q h => absurd h List.not_mem_nil) dX0_isGroup_15
    · refine lv_iconst (v := 1) hx hb dX0_isGroup_10 (by decide) ?_
      refine lv_goto (tgt := 15) hx hb dX0_isGroup_11 (by decide) ?_
      have er : (1 : Int32) = bI (xG g) := by simp [xG, bI, c1, c7]
      exact W.zret (v := (1 : Int32)) (ty := .boolean) hx hb hr rfl (fun t ht hW => ⟨congrArg (fun z => Outcome.returned (some (Value.int z))) er, ht⟩) (fun q h => absurd h List.not_mem_nil) dX0_isGroup_15
theorem hd_X0_isGroup : yX0_isGroup.cls ≠ "java/lang/invoke/MethodHandle" ∧ yX0_isGroup.cls ≠ "java/lang/invoke/VarHandle" ∧ (parseMethodDescriptor yX0_isGroup.desc).map (fun d => d.parameters.length) = some 1 := by decide +kernel

set_option maxHeartbeats 4000000 in
set_option maxRecDepth 100000 in
theorem c_X0_isSource (l : Launch) (q : Int32) : Met l yX0_isSource wsX0_isSource ({ frames := 0, cells := 0, slots := 0, locals := 0 }) (PS [.int q]) (QcRead (bI (xSrc q))) 0 0 (fun _ => False) := by
  refine Met.ofW (cc := cX0_isSource) (maxL := 1) (ret := some .boolean) (by decide) rfl ?_
  intro p e s m args below meth c s₁ B hml hv
  obtain ⟨rfl, -⟩ := hv
  have hx := B.exec
  have hb := B.bytes
  have hr := B.returns
  have hts := atoms_spec (ws := wsX0_isSource) B.pre
  have hown : s.vm.findClass RX0 = some m.cls := findClass_of_methodNamed B.named
  have hlocks := B.notSynchronized
  have S : CallFix p m c cX0_isSource 1 s ([.int q] : List Value).toArray wsX0_isSource RX0 := ⟨hx, hb, hml, hown, hts⟩
  have hl := lv_entry ([.int q]) (n := 1) (Nat.le_of_ble_eq_true rfl)
  rw [lg_entry_eq]
  generalize (lg_sl ([.int q]) ++ List.replicate (1 - (lg_sl ([.int q])).length) Slot.unset).toArray = ls at hl ⊢
  have hl : lv_has ls 1 [(0, .int q)] := hl
  refine lv_iload_n hx hb dX0_isSource_0 rfl (lv_at hl 0 rfl) ?_
  refine lv_if_lt (tgt := 14) hx hb dX0_isSource_1 (by decide) (fun c1 => ?_) (fun c1 => ?_)
  · refine lv_iconst (v := 0) hx hb dX0_isSource_14 (by decide) ?_
    have er : (0 : Int32) = bI (xSrc q) := by simp [xSrc, bI, c1]
    exact W.zret (v := (0 : Int32)) (ty := .boolean) hx hb hr rfl (fun t ht hW => ⟨congrArg (fun z => Outcome.returned (some (Value.int z))) er, ht⟩) (fun q h => absurd h List.not_mem_nil) dX0_isSource_15
  · refine lv_iload_n hx hb dX0_isSource_4 rfl (lv_at hl 0 rfl) ?_
    refine lv_bipush (v := 16) hx hb dX0_isSource_5 (by decide) ?_
    refine lv_icmp_ge (tgt := 14) hx hb dX0_isSource_7 (by decide) (fun c7 => ?_) (fun c7 => ?_)
    · refine lv_iconst (v := 0) hx hb dX0_isSource_14 (by decide) ?_
      have er : (0 : Int32) = bI (xSrc q) := by simp [xSrc, bI, c1, c7]
      exact W.zret (v := (0 : Int32)) (ty := .boolean) hx hb hr rfl (fun t ht hW => ⟨congrArg (fun z => Outcome.returned (some (Value.int z))) er, ht⟩) (fun q h => absurd h List.not_mem_nil) dX0_isSource_15
    · refine lv_iconst (v := 1) hx hb dX0_isSource_10 (by decide) ?_
      refine lv_goto (tgt := 15) hx hb dX0_isSource_11 (by decide) ?_
      have er : (1 : Int32) = bI (xSrc q) := by simp [xSrc, bI, c1, c7]
      exact W.zret (v := (1 : Int32)) (ty := .boolean) hx hb hr rfl (fun t ht hW => ⟨congrArg (fun z => Outcome.returned (some (Value.int z))) er, ht⟩) (fun q h => absurd h List.not_mem_nil) dX0_isSource_15
theorem hd_X0_isSource : yX0_isSource.cls ≠ "java/lang/invoke/MethodHandle" ∧ yX0_isSource.cls ≠ "java/lang/invoke/VarHandle" ∧ (parseMethodDescriptor yX0_isSource.desc).map (fun d => d.parameters.length) = some 1 := by decide +kernel

set_option maxHeartbeats 4000000 in
set_option maxRecDepth 100000 in
theorem c_X0_isBranch (l : Launch) (q : Int32) : Met l yX0_isBranch wsX0_isBranch ({ frames := 1, cells := 0, slots := 0, locals := 20 }) (PS [.int q]) (QcRead (bI (xBr q))) 0 0 (fun _ => False) := by
  refine Met.ofW (cc := cX0_isBranch) (maxL := 1) (ret := some .boolean) (by decide) rfl ?_
  intro p e s m args below meth c s₁ B hml hv
  obtain ⟨rfl, -⟩ := hv
  have hx := B.exec
  have hb := B.bytes
  have hr := B.returns
  have hts := atoms_spec (ws := wsX0_isBranch) B.pre
  have hown : s.vm.findClass RX0 = some m.cls := findClass_of_methodNamed B.named
  have hlocks := B.notSynchronized
  have S : CallFix p m c cX0_isBranch 1 s ([.int q] : List Value).toArray wsX0_isBranch RX0 := ⟨hx, hb, hml, hown, hts⟩
  have hl := lv_entry ([.int q]) (n := 1) (Nat.le_of_ble_eq_true rfl)
  rw [lg_entry_eq]
  generalize (lg_sl ([.int q]) ++ List.replicate (1 - (lg_sl ([.int q])).length) Slot.unset).toArray = ls at hl ⊢
  have hl : lv_has ls 1 [(0, .int q)] := hl
  refine lv_iload_n hx hb dX0_isBranch_0 rfl (lv_at hl 0 rfl) ?_
  refine lv_iconst (v := -1) hx hb dX0_isBranch_1 (by decide) ?_
  refine lv_icmp_eq (tgt := 12) hx hb dX0_isBranch_2 (by decide) (fun c2 => ?_) (fun c2 => ?_)
  · refine lv_iconst (v := 1) hx hb dX0_isBranch_12 (by decide) ?_
    refine lv_goto (tgt := 17) hx hb dX0_isBranch_13 (by decide) ?_
    have er : (1 : Int32) = bI (xBr q) := by simp [xBr, bI, c2]
    exact W.zret (v := (1 : Int32)) (ty := .boolean) hx hb hr rfl (fun t ht hW => ⟨congrArg (fun z => Outcome.returned (some (Value.int z))) er, ht⟩) (fun q h => absurd h List.not_mem_nil) dX0_isBranch_17
  · refine lv_iload_n hx hb dX0_isBranch_5 rfl (lv_at hl 0 rfl) ?_
    refine rd_S (As := [.int q]) (rest := []) S (c_X0_isSource l q) gX0_isBranch_X0_isSource rfl ⟨rfl, rfl⟩ hd_X0_isSource ⟨Nat.le_of_ble_eq_true rfl, Nat.le_of_ble_eq_true rfl⟩ rfl hl.1 rfl (Nat.le_of_ble_eq_true rfl) dX0_isBranch_6 ⟨Nat.le_of_ble_eq_true rfl, Nat.le_of_ble_eq_true rfl⟩ ?_
    refine lv_if_eq (tgt := 16) hx hb dX0_isBranch_9 (by decide) (fun c9 => ?_) (fun c9 => ?_)
    · have b9 := bI_z c9
      refine lv_iconst (v := 0) hx hb dX0_isBranch_16 (by decide) ?_
      have er : (0 : Int32) = bI (xBr q) := by simp [xBr, bI, c2, b9]
      exact W.zret (v := (0 : Int32)) (ty := .boolean) hx hb hr rfl (fun t ht hW => ⟨congrArg (fun z => Outcome.returned (some (Value.int z))) er, ht⟩) (fun q h => absurd h List.not_mem_nil) dX0_isBranch_17
    · have b9 := bI_nz c9
      refine lv_iconst (v := 1) hx hb dX0_isBranch_12 (by decide) ?_
      refine lv_goto (tgt := 17) hx hb dX0_isBranch_13 (by decide) ?_
      have er : (1 : Int32) = bI (xBr q) := by simp [xBr, bI, c2, b9]
      exact W.zret (v := (1 : Int32)) (ty := .boolean) hx hb hr rfl (fun t ht hW => ⟨congrArg (fun z => Outcome.returned (some (Value.int z))) er, ht⟩) (fun q h => absurd h List.not_mem_nil) dX0_isBranch_17
theorem hd_X0_isBranch : yX0_isBranch.cls ≠ "java/lang/invoke/MethodHandle" ∧ yX0_isBranch.cls ≠ "java/lang/invoke/VarHandle" ∧ (parseMethodDescriptor yX0_isBranch.desc).map (fun d => d.parameters.length) = some 1 := by decide +kernel

set_option maxHeartbeats 4000000 in
set_option maxRecDepth 100000 in
theorem c_X0_branchPlace (l : Launch) (g q : Int32) : Met l yX0_branchPlace wsX0_branchPlace ({ frames := 0, cells := 0, slots := 0, locals := 0 }) (PS [.int g, .int q]) (QcRead (xPl g q)) 0 0 (fun _ => False) := by
  refine Met.ofW (cc := cX0_branchPlace) (maxL := 2) (ret := some .int) (by decide) rfl ?_
  intro p e s m args below meth c s₁ B hml hv
  obtain ⟨rfl, -⟩ := hv
  have hx := B.exec
  have hb := B.bytes
  have hr := B.returns
  have hts := atoms_spec (ws := wsX0_branchPlace) B.pre
  have hown : s.vm.findClass RX0 = some m.cls := findClass_of_methodNamed B.named
  have hlocks := B.notSynchronized
  have S : CallFix p m c cX0_branchPlace 2 s ([.int g, .int q] : List Value).toArray wsX0_branchPlace RX0 := ⟨hx, hb, hml, hown, hts⟩
  have hl := lv_entry ([.int g, .int q]) (n := 2) (Nat.le_of_ble_eq_true rfl)
  rw [lg_entry_eq]
  generalize (lg_sl ([.int g, .int q]) ++ List.replicate (2 - (lg_sl ([.int g, .int q])).length) Slot.unset).toArray = ls at hl ⊢
  have hl : lv_has ls 2 [(0, .int g), (1, .int q)] := hl
  refine lv_iload_n hx hb dX0_branchPlace_0 rfl (lv_at hl 0 rfl) ?_
  refine lv_bipush (v := 17) hx hb dX0_branchPlace_1 (by decide) ?_
  refine lv_imul hx hb dX0_branchPlace_3 ?_
  refine lv_iload_n hx hb dX0_branchPlace_4 rfl (lv_at hl 1 rfl) ?_
  refine lv_iconst (v := -1) hx hb dX0_branchPlace_5 (by decide) ?_
  refine lv_icmp_ne (tgt := 14) hx hb dX0_branchPlace_6 (by decide) (fun c6 => ?_) (fun c6 => ?_)
  · refine lv_iload_n hx hb dX0_branchPlace_14 rfl (lv_at hl 1 rfl) ?_
    refine lv_iadd hx hb dX0_branchPlace_15 ?_
    have er : (g * ((17 : Int32))) + q = xPl g q := by simp [xPl, c6]
    exact W.iret (v := (g * ((17 : Int32))) + q) hx hb hr (fun t ht hW => ⟨congrArg (fun z => Outcome.returned (some (Value.int z))) er, ht⟩) (fun q h => absurd h List.not_mem_nil) dX0_branchPlace_16
  · refine lv_bipush (v := 16) hx hb dX0_branchPlace_9 (by decide) ?_
    refine lv_goto (tgt := 15) hx hb dX0_branchPlace_11 (by decide) ?_
    refine lv_iadd hx hb dX0_branchPlace_15 ?_
    have er : (g * ((17 : Int32))) + ((16 : Int32)) = xPl g q := by simp [xPl, c6]
    exact W.iret (v := (g * ((17 : Int32))) + ((16 : Int32))) hx hb hr (fun t ht hW => ⟨congrArg (fun z => Outcome.returned (some (Value.int z))) er, ht⟩) (fun q h => absurd h List.not_mem_nil) dX0_branchPlace_16
theorem hd_X0_branchPlace : yX0_branchPlace.cls ≠ "java/lang/invoke/MethodHandle" ∧ yX0_branchPlace.cls ≠ "java/lang/invoke/VarHandle" ∧ (parseMethodDescriptor yX0_branchPlace.desc).map (fun d => d.parameters.length) = some 2 := by decide +kernel

set_option maxHeartbeats 4000000 in
set_option maxRecDepth 100000 in
theorem c_X0_cutPlace (l : Launch) (g q : Int32) : Met l yX0_cutPlace wsX0_cutPlace ({ frames := 0, cells := 0, slots := 0, locals := 0 }) (PS [.int g, .int q]) (QcRead (xCp g q)) 0 0 (fun _ => False) := by
  refine Met.ofW (cc := cX0_cutPlace) (maxL := 2) (ret := some .int) (by decide) rfl ?_
  intro p e s m args below meth c s₁ B hml hv
  obtain ⟨rfl, -⟩ := hv
  have hx := B.exec
  have hb := B.bytes
  have hr := B.returns
  have hts := atoms_spec (ws := wsX0_cutPlace) B.pre
  have hown : s.vm.findClass RX0 = some m.cls := findClass_of_methodNamed B.named
  have hlocks := B.notSynchronized
  have S : CallFix p m c cX0_cutPlace 2 s ([.int g, .int q] : List Value).toArray wsX0_cutPlace RX0 := ⟨hx, hb, hml, hown, hts⟩
  have hl := lv_entry ([.int g, .int q]) (n := 2) (Nat.le_of_ble_eq_true rfl)
  rw [lg_entry_eq]
  generalize (lg_sl ([.int g, .int q]) ++ List.replicate (2 - (lg_sl ([.int g, .int q])).length) Slot.unset).toArray = ls at hl ⊢
  have hl : lv_has ls 2 [(0, .int g), (1, .int q)] := hl
  refine lv_iload_n hx hb dX0_cutPlace_0 rfl (lv_at hl 0 rfl) ?_
  refine lv_bipush (v := 16) hx hb dX0_cutPlace_1 (by decide) ?_
  refine lv_imul hx hb dX0_cutPlace_3 ?_
  refine lv_iload_n hx hb dX0_cutPlace_4 rfl (lv_at hl 1 rfl) ?_
  refine lv_iadd hx hb dX0_cutPlace_5 ?_
  exact W.iret (v := (g * ((16 : Int32))) + q) hx hb hr (fun t ht hW => ⟨rfl, ht⟩) (fun q h => absurd h List.not_mem_nil) dX0_cutPlace_6
theorem hd_X0_cutPlace : yX0_cutPlace.cls ≠ "java/lang/invoke/MethodHandle" ∧ yX0_cutPlace.cls ≠ "java/lang/invoke/VarHandle" ∧ (parseMethodDescriptor yX0_cutPlace.desc).map (fun d => d.parameters.length) = some 2 := by decide +kernel

set_option maxHeartbeats 4000000 in
set_option maxRecDepth 100000 in
theorem c_X0_hasBit (l : Launch) (b q : Int32) : Met l yX0_hasBit wsX0_hasBit ({ frames := 0, cells := 0, slots := 0, locals := 0 }) (PS [.int b, .int q]) (QcRead (bI (xBit b q))) 0 0 (fun _ => False) := by
  refine Met.ofW (cc := cX0_hasBit) (maxL := 2) (ret := some .boolean) (by decide) rfl ?_
  intro p e s m args below meth c s₁ B hml hv
  obtain ⟨rfl, -⟩ := hv
  have hx := B.exec
  have hb := B.bytes
  have hr := B.returns
  have hts := atoms_spec (ws := wsX0_hasBit) B.pre
  have hown : s.vm.findClass RX0 = some m.cls := findClass_of_methodNamed B.named
  have hlocks := B.notSynchronized
  have S : CallFix p m c cX0_hasBit 2 s ([.int b, .int q] : List Value).toArray wsX0_hasBit RX0 := ⟨hx, hb, hml, hown, hts⟩
  have hl := lv_entry ([.int b, .int q]) (n := 2) (Nat.le_of_ble_eq_true rfl)
  rw [lg_entry_eq]
  generalize (lg_sl ([.int b, .int q]) ++ List.replicate (2 - (lg_sl ([.int b, .int q])).length) Slot.unset).toArray = ls at hl ⊢
  have hl : lv_has ls 2 [(0, .int b), (1, .int q)] := hl
  refine lv_iload_n hx hb dX0_hasBit_0 rfl (lv_at hl 0 rfl) ?_
  refine lv_iload_n hx hb dX0_hasBit_1 rfl (lv_at hl 1 rfl) ?_
  refine lv_ishr hx hb dX0_hasBit_2 ?_
  refine lv_iconst (v := 1) hx hb dX0_hasBit_3 (by decide) ?_
  refine lv_iand hx hb dX0_hasBit_4 ?_
  refine lv_if_eq (tgt := 12) hx hb dX0_hasBit_5 (by decide) (fun c5 => ?_) (fun c5 => ?_)
  · refine lv_iconst (v := 0) hx hb dX0_hasBit_12 (by decide) ?_
    have er : (0 : Int32) = bI (xBit b q) := by simp [xBit, bI, c5]
    exact W.zret (v := (0 : Int32)) (ty := .boolean) hx hb hr rfl (fun t ht hW => ⟨congrArg (fun z => Outcome.returned (some (Value.int z))) er, ht⟩) (fun q h => absurd h List.not_mem_nil) dX0_hasBit_13
  · refine lv_iconst (v := 1) hx hb dX0_hasBit_8 (by decide) ?_
    refine lv_goto (tgt := 13) hx hb dX0_hasBit_9 (by decide) ?_
    have er : (1 : Int32) = bI (xBit b q) := by simp [xBit, bI, c5]
    exact W.zret (v := (1 : Int32)) (ty := .boolean) hx hb hr rfl (fun t ht hW => ⟨congrArg (fun z => Outcome.returned (some (Value.int z))) er, ht⟩) (fun q h => absurd h List.not_mem_nil) dX0_hasBit_13
theorem hd_X0_hasBit : yX0_hasBit.cls ≠ "java/lang/invoke/MethodHandle" ∧ yX0_hasBit.cls ≠ "java/lang/invoke/VarHandle" ∧ (parseMethodDescriptor yX0_hasBit.desc).map (fun d => d.parameters.length) = some 2 := by decide +kernel

set_option maxHeartbeats 4000000 in
set_option maxRecDepth 100000 in
theorem c_X0_oneIf (l : Launch) (z : Int32) : Met l yX0_oneIf wsX0_oneIf ({ frames := 0, cells := 0, slots := 0, locals := 0 }) (PS [.int z]) (QcRead (bI (!decide (z = 0)))) 0 0 (fun _ => False) := by
  refine Met.ofW (cc := cX0_oneIf) (maxL := 1) (ret := some .int) (by decide) rfl ?_
  intro p e s m args below meth c s₁ B hml hv
  obtain ⟨rfl, -⟩ := hv
  have hx := B.exec
  have hb := B.bytes
  have hr := B.returns
  have hts := atoms_spec (ws := wsX0_oneIf) B.pre
  have hown : s.vm.findClass RX0 = some m.cls := findClass_of_methodNamed B.named
  have hlocks := B.notSynchronized
  have S : CallFix p m c cX0_oneIf 1 s ([.int z] : List Value).toArray wsX0_oneIf RX0 := ⟨hx, hb, hml, hown, hts⟩
  have hl := lv_entry ([.int z]) (n := 1) (Nat.le_of_ble_eq_true rfl)
  rw [lg_entry_eq]
  generalize (lg_sl ([.int z]) ++ List.replicate (1 - (lg_sl ([.int z])).length) Slot.unset).toArray = ls at hl ⊢
  have hl : lv_has ls 1 [(0, .int z)] := hl
  refine lv_iload_n hx hb dX0_oneIf_0 rfl (lv_at hl 0 rfl) ?_
  refine lv_if_eq (tgt := 8) hx hb dX0_oneIf_1 (by decide) (fun c1 => ?_) (fun c1 => ?_)
  · refine lv_iconst (v := 0) hx hb dX0_oneIf_8 (by decide) ?_
    have er : (0 : Int32) = bI (!decide (z = 0)) := by simp [bI, c1]
    exact W.iret (v := (0 : Int32)) hx hb hr (fun t ht hW => ⟨congrArg (fun z => Outcome.returned (some (Value.int z))) er, ht⟩) (fun q h => absurd h List.not_mem_nil) dX0_oneIf_9
  · refine lv_iconst (v := 1) hx hb dX0_oneIf_4 (by decide) ?_
    refine lv_goto (tgt := 9) hx hb dX0_oneIf_5 (by decide) ?_
    have er : (1 : Int32) = bI (!decide (z = 0)) := by simp [bI, c1]
    exact W.iret (v := (1 : Int32)) hx hb hr (fun t ht hW => ⟨congrArg (fun z => Outcome.returned (some (Value.int z))) er, ht⟩) (fun q h => absurd h List.not_mem_nil) dX0_oneIf_9
theorem hd_X0_oneIf : yX0_oneIf.cls ≠ "java/lang/invoke/MethodHandle" ∧ yX0_oneIf.cls ≠ "java/lang/invoke/VarHandle" ∧ (parseMethodDescriptor yX0_oneIf.desc).map (fun d => d.parameters.length) = some 1 := by decide +kernel

set_option maxHeartbeats 4000000 in
set_option maxRecDepth 100000 in
theorem c_J6_bitCount_0f7a4 (l : Launch) (x : Int32) : Met l yJ6_bitCount_0f7a4 wsJ6_bitCount_0f7a4 ({ frames := 0, cells := 0, slots := 0, locals := 0 }) (PS [.int x]) (QcRead (bcI x)) 0 0 (fun _ => False) := by
  refine Met.ofW (cc := cJ6_bitCount_0f7a4) (maxL := 1) (ret := some .int) (by decide) rfl ?_
  intro p e s m args below meth c s₁ B hml hv
  obtain ⟨rfl, -⟩ := hv
  have hx := B.exec
  have hb := B.bytes
  have hr := B.returns
  have hts := atoms_spec (ws := wsJ6_bitCount_0f7a4) B.pre
  have hown : s.vm.findClass RJ6 = some m.cls := findClass_of_methodNamed B.named
  have hlocks := B.notSynchronized
  have S : CallFix p m c cJ6_bitCount_0f7a4 1 s ([.int x] : List Value).toArray wsJ6_bitCount_0f7a4 RJ6 := ⟨hx, hb, hml, hown, hts⟩
  have hl := lv_entry ([.int x]) (n := 1) (Nat.le_of_ble_eq_true rfl)
  rw [lg_entry_eq]
  generalize (lg_sl ([.int x]) ++ List.replicate (1 - (lg_sl ([.int x])).length) Slot.unset).toArray = ls at hl ⊢
  have hl : lv_has ls 1 [(0, .int x)] := hl
  refine lv_iload_n hx hb dJ6_bitCount_0f7a4_0 rfl (lv_at hl 0 rfl) ?_
  refine lv_iload_n hx hb dJ6_bitCount_0f7a4_1 rfl (lv_at hl 0 rfl) ?_
  refine lv_iconst (v := 1) hx hb dJ6_bitCount_0f7a4_2 (by decide) ?_
  refine lv_iushr (v := (x.toUInt32 >>> (((1 : Int32)).toUInt32 &&& Int32.toUInt32 31)).toInt32) hx hb dJ6_bitCount_0f7a4_3 rfl ?_
  refine lv_ldcw (v := 1431655765) hx hb hown (hts (.constant RJ6 265 (1431655765)) (by decide +kernel)) dJ6_bitCount_0f7a4_4 ?_
  refine lv_iand hx hb dJ6_bitCount_0f7a4_7 ?_
  refine lv_isub hx hb dJ6_bitCount_0f7a4_8 ?_
  refine lv_top (x' := bc1 x) (rfl) ?_
  refine lv_istore_n (lv' := [(0, .int (bc1 x))]) hx hb dJ6_bitCount_0f7a4_9 rfl hl (by decide) rfl (fun ls hl => ?_)
  refine lv_iload_n hx hb dJ6_bitCount_0f7a4_10 rfl (lv_at hl 0 rfl) ?_
  refine lv_ldcw (v := 858993459) hx hb hown (hts (.constant RJ6 266 (858993459)) (by decide +kernel)) dJ6_bitCount_0f7a4_11 ?_
  refine lv_iand hx hb dJ6_bitCount_0f7a4_14 ?_
  refine lv_iload_n hx hb dJ6_bitCount_0f7a4_15 rfl (lv_at hl 0 rfl) ?_
  refine lv_iconst (v := 2) hx hb dJ6_bitCount_0f7a4_16 (by decide) ?_
  refine lv_iushr (v := ((bc1 x).toUInt32 >>> (((2 : Int32)).toUInt32 &&& Int32.toUInt32 31)).toInt32) hx hb dJ6_bitCount_0f7a4_17 rfl ?_
  refine lv_ldcw (v := 858993459) hx hb hown (hts (.constant RJ6 266 (858993459)) (by decide +kernel)) dJ6_bitCount_0f7a4_18 ?_
  refine lv_iand hx hb dJ6_bitCount_0f7a4_21 ?_
  refine lv_iadd hx hb dJ6_bitCount_0f7a4_22 ?_
  refine lv_top (x' := bc2 (bc1 x)) (rfl) ?_
  refine lv_istore_n (lv' := [(0, .int (bc2 (bc1 x)))]) hx hb dJ6_bitCount_0f7a4_23 rfl hl (by decide) rfl (fun ls hl => ?_)
  refine lv_iload_n hx hb dJ6_bitCount_0f7a4_24 rfl (lv_at hl 0 rfl) ?_
  refine lv_iload_n hx hb dJ6_bitCount_0f7a4_25 rfl (lv_at hl 0 rfl) ?_
  refine lv_iconst (v := 4) hx hb dJ6_bitCount_0f7a4_26 (by decide) ?_
  refine lv_iushr (v := ((bc2 (bc1 x)).toUInt32 >>> (((4 : Int32)).toUInt32 &&& Int32.toUInt32 31)).toInt32) hx hb dJ6_bitCount_0f7a4_27 rfl ?_
  refine lv_iadd hx hb dJ6_bitCount_0f7a4_28 ?_
  refine lv_ldcw (v := 252645135) hx hb hown (hts (.constant RJ6 267 (252645135)) (by decide +kernel)) dJ6_bitCount_0f7a4_29 ?_
  refine lv_iand hx hb dJ6_bitCount_0f7a4_32 ?_
  refine lv_top (x' := bc3 (bc2 (bc1 x))) (rfl) ?_
  refine lv_istore_n (lv' := [(0, .int (bc3 (bc2 (bc1 x))))]) hx hb dJ6_bitCount_0f7a4_33 rfl hl (by decide) rfl (fun ls hl => ?_)
  refine lv_iload_n hx hb dJ6_bitCount_0f7a4_34 rfl (lv_at hl 0 rfl) ?_
  refine lv_iload_n hx hb dJ6_bitCount_0f7a4_35 rfl (lv_at hl 0 rfl) ?_
  refine lv_bipush (v := 8) hx hb dJ6_bitCount_0f7a4_36 (by decide) ?_
  refine lv_iushr (v := ((bc3 (bc2 (bc1 x))).toUInt32 >>> (((8 : Int32)).toUInt32 &&& Int32.toUInt32 31)).toInt32) hx hb dJ6_bitCount_0f7a4_38 rfl ?_
  refine lv_iadd hx hb dJ6_bitCount_0f7a4_39 ?_
  refine lv_top (x' := bc4 (bc3 (bc2 (bc1 x)))) (rfl) ?_
  refine lv_istore_n (lv' := [(0, .int (bc4 (bc3 (bc2 (bc1 x)))))]) hx hb dJ6_bitCount_0f7a4_40 rfl hl (by decide) rfl (fun ls hl => ?_)
  refine lv_iload_n hx hb dJ6_bitCount_0f7a4_41 rfl (lv_at hl 0 rfl) ?_
  refine lv_iload_n hx hb dJ6_bitCount_0f7a4_42 rfl (lv_at hl 0 rfl) ?_
  refine lv_bipush (v := 16) hx hb dJ6_bitCount_0f7a4_43 (by decide) ?_
  refine lv_iushr (v := ((bc4 (bc3 (bc2 (bc1 x)))).toUInt32 >>> (((16 : Int32)).toUInt32 &&& Int32.toUInt32 31)).toInt32) hx hb dJ6_bitCount_0f7a4_45 rfl ?_
  refine lv_iadd hx hb dJ6_bitCount_0f7a4_46 ?_
  refine lv_top (x' := bc5 (bc4 (bc3 (bc2 (bc1 x))))) (rfl) ?_
  refine lv_istore_n (lv' := [(0, .int (bc5 (bc4 (bc3 (bc2 (bc1 x))))))]) hx hb dJ6_bitCount_0f7a4_47 rfl hl (by decide) rfl (fun ls hl => ?_)
  refine lv_iload_n hx hb dJ6_bitCount_0f7a4_48 rfl (lv_at hl 0 rfl) ?_
  refine lv_bipush (v := 63) hx hb dJ6_bitCount_0f7a4_49 (by decide) ?_
  refine lv_iand hx hb dJ6_bitCount_0f7a4_51 ?_
  exact W.iret (v := (bc5 (bc4 (bc3 (bc2 (bc1 x))))) &&& ((63 : Int32))) hx hb hr (fun t ht hW => ⟨rfl, ht⟩) (fun q h => absurd h List.not_mem_nil) dJ6_bitCount_0f7a4_52
theorem hd_J6_bitCount_0f7a4 : yJ6_bitCount_0f7a4.cls ≠ "java/lang/invoke/MethodHandle" ∧ yJ6_bitCount_0f7a4.cls ≠ "java/lang/invoke/VarHandle" ∧ (parseMethodDescriptor yJ6_bitCount_0f7a4.desc).map (fun d => d.parameters.length) = some 1 := by decide +kernel

theorem iwsX0_stands : ∀ w ∈ u_ws RX0 TX0 7, w ∈ wsX0_stands := fun _ h => List.mem_cons_of_mem _ (List.mem_append_right _ h)
set_option maxHeartbeats 4000000 in
set_option maxRecDepth 100000 in
theorem c_X0_stands (l : Launch) (dC : Nat → ClassId) (dI : Nat → Nat → Nat) (h a1 a2 a3 a4 a5 : Nat) (cA : ClassId) (me tm : Int32) (fN fM fJ fT fC : Nat → Int32) (t : Int32) : Met l yX0_stands wsX0_stands ({ frames := 0, cells := 0, slots := 0, locals := 0 }) (PR [.ref h, .int t] dC dI cA (wX h a1 a2 a3 a4 a5 cA me tm fN fM fJ fT fC)) (QcRead (bI (xSt tm t))) 0 0 (fun _ => False) := by
  refine Met.ofW (cc := cX0_stands) (maxL := 2) (ret := some .boolean) (by decide) rfl ?_
  intro p e s m args below meth c s₁ B hml hv
  obtain ⟨rfl, hP, hK⟩ := hv
  have hx := B.exec
  have hb := B.bytes
  have hr := B.returns
  have hts := atoms_spec (ws := wsX0_stands) B.pre
  have hown : s.vm.findClass RX0 = some m.cls := findClass_of_methodNamed B.named
  have hlocks := B.notSynchronized
  have S : CallFix p m c cX0_stands 2 s ([.ref h, .int t] : List Value).toArray wsX0_stands RX0 := ⟨hx, hb, hml, hown, hts⟩
  have hl := lv_entry ([.ref h, .int t]) (n := 2) (Nat.le_of_ble_eq_true rfl)
  rw [lg_entry_eq]
  generalize (lg_sl ([.ref h, .int t]) ++ List.replicate (2 - (lg_sl ([.ref h, .int t])).length) Slot.unset).toArray = ls at hl ⊢
  have hl : lv_has ls 2 [(0, .ref h), (1, .int t)] := hl
  refine lv_aload_n hx hb dX0_stands_0 rfl (lv_at hl 0 rfl) ?_
  refine va_get (D := (dC, dI)) (ci := 0) (v := .int tm) (C := RX0) (T := TX0) (N := 7) hx hb hts iwsX0_stands hown hK hP 0 rfl rfl 1 (by decide) (hts (.fieldLink RX0 38 "BranchTimes" "time" "I") (by decide +kernel)) (fun _ h9 => h9) rfl dX0_stands_1 ?_
  refine lv_iload_n hx hb dX0_stands_4 rfl (lv_at hl 1 rfl) ?_
  refine lv_icmp_ge (tgt := 12) hx hb dX0_stands_5 (by decide) (fun c5 => ?_) (fun c5 => ?_)
  · refine lv_iconst (v := 0) hx hb dX0_stands_12 (by decide) ?_
    have er : (0 : Int32) = bI (xSt tm t) := by simp [xSt, bI, c5]
    exact W.zret (v := (0 : Int32)) (ty := .boolean) hx hb hr rfl (fun t ht hW => ⟨congrArg (fun z => Outcome.returned (some (Value.int z))) er, ht⟩) (fun q h => absurd h List.not_mem_nil) dX0_stands_13
  · refine lv_iconst (v := 1) hx hb dX0_stands_8 (by decide) ?_
    refine lv_goto (tgt := 13) hx hb dX0_stands_9 (by decide) ?_
    have er : (1 : Int32) = bI (xSt tm t) := by simp [xSt, bI, c5]
    exact W.zret (v := (1 : Int32)) (ty := .boolean) hx hb hr rfl (fun t ht hW => ⟨congrArg (fun z => Outcome.returned (some (Value.int z))) er, ht⟩) (fun q h => absurd h List.not_mem_nil) dX0_stands_13
theorem hd_X0_stands : yX0_stands.cls = RX0 ∧ yX0_stands.cls ≠ "java/lang/invoke/MethodHandle" ∧ yX0_stands.cls ≠ "java/lang/invoke/VarHandle" ∧ (parseMethodDescriptor yX0_stands.desc).map (fun d => d.parameters.length) = some 1 := by decide +kernel

theorem iwsX0_tillOrZero : ∀ w ∈ u_ws RX0 TX0 7, w ∈ wsX0_tillOrZero := fun _ h => List.mem_cons_of_mem _ (List.mem_append_right _ h)
set_option maxHeartbeats 4000000 in
set_option maxRecDepth 100000 in
theorem c_X0_tillOrZero (l : Launch) (dC : Nat → ClassId) (dI : Nat → Nat → Nat) (h a1 a2 a3 a4 a5 : Nat) (cA : ClassId) (me tm : Int32) (fN fM fJ fT fC : Nat → Int32) (t : Int32) : Met l yX0_tillOrZero wsX0_tillOrZero ({ frames := 1, cells := 0, slots := 0, locals := 21 }) (PR [.ref h, .int t] dC dI cA (wX h a1 a2 a3 a4 a5 cA me tm fN fM fJ fT fC)) (QcRead (xTz tm t)) 0 0 (fun _ => False) := by
  refine Met.ofW (cc := cX0_tillOrZero) (maxL := 2) (ret := some .int) (by decide) rfl ?_
  intro p e s m args below meth c s₁ B hml hv
  obtain ⟨rfl, hP, hK⟩ := hv
  have hx := B.exec
  have hb := B.bytes
  have hr := B.returns
  have hts := atoms_spec (ws := wsX0_tillOrZero) B.pre
  have hown : s.vm.findClass RX0 = some m.cls := findClass_of_methodNamed B.named
  have hlocks := B.notSynchronized
  have S : CallFix p m c cX0_tillOrZero 2 s ([.ref h, .int t] : List Value).toArray wsX0_tillOrZero RX0 := ⟨hx, hb, hml, hown, hts⟩
  have hl := lv_entry ([.ref h, .int t]) (n := 2) (Nat.le_of_ble_eq_true rfl)
  rw [lg_entry_eq]
  generalize (lg_sl ([.ref h, .int t]) ++ List.replicate (2 - (lg_sl ([.ref h, .int t])).length) Slot.unset).toArray = ls at hl ⊢
  have hl : lv_has ls 2 [(0, .ref h), (1, .int t)] := hl
  refine lv_aload_n hx hb dX0_tillOrZero_0 rfl (lv_at hl 0 rfl) ?_
  refine lv_iload_n hx hb dX0_tillOrZero_1 rfl (lv_at hl 1 rfl) ?_
  refine rd_V (As := [.int t]) (rest := []) (ci := 0) (qc := (RX0, TX0, 7)) S (c_X0_stands l dC dI h a1 a2 a3 a4 a5 cA me tm fN fM fJ fT fC t) gX0_tillOrZero_X0_stands rfl ⟨rfl, rfl⟩ hd_X0_stands ⟨Nat.le_of_ble_eq_true rfl, Nat.le_of_ble_eq_true rfl⟩ hK hP rfl rfl rfl hl.1 rfl (Nat.le_of_ble_eq_true rfl) dX0_tillOrZero_2 ⟨Nat.le_of_ble_eq_true rfl, Nat.le_of_ble_eq_true rfl⟩ ?_
  refine lv_if_eq (tgt := 12) hx hb dX0_tillOrZero_5 (by decide) (fun c5 => ?_) (fun c5 => ?_)
  · have b5 := bI_z c5
    refine lv_iconst (v := 0) hx hb dX0_tillOrZero_12 (by decide) ?_
    have er : (0 : Int32) = xTz tm t := by simp [xTz, b5]
    exact W.iret (v := (0 : Int32)) hx hb hr (fun t ht hW => ⟨congrArg (fun z => Outcome.returned (some (Value.int z))) er, ht⟩) (fun q h => absurd h List.not_mem_nil) dX0_tillOrZero_13
  · have b5 := bI_nz c5
    refine lv_iload_n hx hb dX0_tillOrZero_8 rfl (lv_at hl 1 rfl) ?_
    refine lv_goto (tgt := 13) hx hb dX0_tillOrZero_9 (by decide) ?_
    have er : t = xTz tm t := by simp [xTz, b5]
    exact W.iret (v := t) hx hb hr (fun t ht hW => ⟨congrArg (fun z => Outcome.returned (some (Value.int z))) er, ht⟩) (fun q h => absurd h List.not_mem_nil) dX0_tillOrZero_13
theorem hd_X0_tillOrZero : yX0_tillOrZero.cls = RX0 ∧ yX0_tillOrZero.cls ≠ "java/lang/invoke/MethodHandle" ∧ yX0_tillOrZero.cls ≠ "java/lang/invoke/VarHandle" ∧ (parseMethodDescriptor yX0_tillOrZero.desc).map (fun d => d.parameters.length) = some 1 := by decide +kernel

theorem iwsX0_neighbourBits : ∀ w ∈ u_ws RX0 TX0 7, w ∈ wsX0_neighbourBits := fun _ h => List.mem_cons_of_mem _ (List.mem_append_right _ h)
set_option maxHeartbeats 4000000 in
set_option maxRecDepth 100000 in
theorem lp_X0_neighbourBits_4 {p : Program} {e : Env} {s : State} {m : MethodId} {args : Array Value} {below : List Frame} {meth : Method} {c : Code} {cells slots : Nat} {Q : State → Prop} {H : Heap} {locs : List Loc} (l : Launch) (dC : Nat → ClassId) (dI : Nat → Nat → Nat) (h a1 a2 a3 a4 a5 : Nat) (cA : ClassId) (me tm : Int32) (fN fM fJ fT fC : Nat → Int32) (S : CallFix p m c cX0_neighbourBits 3 s args wsX0_neighbourBits RX0) (hK : va_K (dC, dI) vwCl [(cA, .int)] s) (hP : va_P (dC, dI) vwCl (wX h a1 a2 a3 a4 a5 cA me tm fN fM fJ fT fC) H) (hcs : cells + 0 ≤ 0 ∧ slots + 0 ≤ 0) (k : ∀ (ls : Array Slot), lv_has ls 3 [(0, .ref h), (1, .int (bitsI (xNbq tm fN) 10)), (2, .int (nI 10))] → W p l e ({ frames := 1, cells := 0, slots := 0, locals := 21 }) s m args below meth c H locs cells slots Q (F0 m 35 ls [])) : ∀ (n i : Nat), i + n = 10 → ∀ (ls : Array Slot), lv_has ls 3 [(0, .ref h), (1, .int (bitsI (xNbq tm fN) i)), (2, .int (nI i))] → W p l e ({ frames := 1, cells := 0, slots := 0, locals := 21 }) s m args below meth c H locs cells slots Q (F0 m 4 ls []) := by
  obtain ⟨hx, hb, hml, hown, hts⟩ := id S
  intro n
  induction n with
  | zero =>
    intro i hi ls hl
    obtain rfl : i = 10 := by omega
    refine lv_iload_n hx hb dX0_neighbourBits_4 rfl (lv_at hl 2 rfl) ?_
    refine lv_bipush (v := 10) hx hb dX0_neighbourBits_5 (by decide) ?_
    refine lv_icmp_ge (tgt := 35) hx hb dX0_neighbourBits_7 (by decide) (fun c7 => ?_) (fun c7 => ?_)
    · exact k ls (lv_sub hl [0, 1, 2] rfl)
    · exact absurd c7 (by decide)
  | succ n ih =>
    intro i hi ls hl
    have hlt : i < 10 := by omega
    have hcl : (nI i).toNatClampNeg = i := nI_clamp (by omega)
    refine lv_iload_n hx hb dX0_neighbourBits_4 rfl (lv_at hl 2 rfl) ?_
    refine lv_bipush (v := 10) hx hb dX0_neighbourBits_5 (by decide) ?_
    refine lv_icmp_ge (tgt := 35) hx hb dX0_neighbourBits_7 (by decide) (fun c7 => ?_) (fun c7 => ?_)
    · exact absurd c7 (nI_ge hlt (by decide))
    · refine lv_aload_n hx hb dX0_neighbourBits_10 rfl (lv_at hl 0 rfl) ?_
      refine lv_aload_n hx hb dX0_neighbourBits_11 rfl (lv_at hl 0 rfl) ?_
      refine va_get (D := (dC, dI)) (ci := 0) (v := .ref a1) (C := RX0) (T := TX0) (N := 7) hx hb hts iwsX0_neighbourBits hown hK hP 0 rfl rfl 2 (by decide) (hts (.fieldLink RX0 9 "BranchTimes" "neighbourTill" "[I") (by decide +kernel)) (fun _ h9 => h9) rfl dX0_neighbourBits_12 ?_
      refine lv_iload_n hx hb dX0_neighbourBits_15 rfl (lv_at hl 2 rfl) ?_
      refine va_iald (D := (dC, dI)) hx hb hK hP 1 0 rfl rfl (vp_in_nI hlt (by decide)) dX0_neighbourBits_16 ?_
      refine lv_top (x' := fN i) (congrArg fN hcl) ?_
      refine rd_V (As := [.int (fN i)]) (rest := []) (ci := 0) (qc := (RX0, TX0, 7)) S (c_X0_stands l dC dI h a1 a2 a3 a4 a5 cA me tm fN fM fJ fT fC (fN i)) gX0_neighbourBits_X0_stands rfl ⟨rfl, rfl⟩ hd_X0_stands ⟨Nat.le_of_ble_eq_true rfl, Nat.le_of_ble_eq_true rfl⟩ hK hP rfl rfl rfl hl.1 rfl (Nat.le_of_ble_eq_true rfl) dX0_neighbourBits_17 hcs ?_
      refine lv_if_eq (tgt := 29) hx hb dX0_neighbourBits_20 (by decide) (fun c20 => ?_) (fun c20 => ?_)
      · have b20 := bI_z c20
        refine lv_iinc (v := nI (i + 1)) (lv' := [(2, .int (nI (i + 1))), (0, .ref h), (1, .int (bitsI (xNbq tm fN) i))]) hx hb dX0_neighbourBits_29 hl (k := 2) rfl (nI_1 _) (by decide) rfl (fun ls hl => ?_)
        refine lv_goto (tgt := 4) hx hb dX0_neighbourBits_32 (by decide) ?_
        exact ih (i + 1) (by omega) ls (by rw [bitsI_f b20]; exact lv_sub hl [1, 2, 0] rfl)
      · have b20 := bI_nz c20
        refine lv_iload_n hx hb dX0_neighbourBits_23 rfl (lv_at hl 1 rfl) ?_
        refine lv_iconst (v := 1) hx hb dX0_neighbourBits_24 (by decide) ?_
        refine lv_iload_n hx hb dX0_neighbourBits_25 rfl (lv_at hl 2 rfl) ?_
        refine lv_ishl hx hb dX0_neighbourBits_26 ?_
        refine lv_ior hx hb dX0_neighbourBits_27 ?_
        refine lv_istore_n (lv' := [(1, .int ((bitsI (xNbq tm fN) i) ||| (((1 : Int32)) <<< ((nI i) &&& 31)))), (0, .ref h), (2, .int (nI i))]) hx hb dX0_neighbourBits_28 rfl hl (by decide) rfl (fun ls hl => ?_)
        refine lv_iinc (v := nI (i + 1)) (lv' := [(2, .int (nI (i + 1))), (1, .int ((bitsI (xNbq tm fN) i) ||| (((1 : Int32)) <<< ((nI i) &&& 31)))), (0, .ref h)]) hx hb dX0_neighbourBits_29 hl (k := 2) rfl (nI_1 _) (by decide) rfl (fun ls hl => ?_)
        refine lv_goto (tgt := 4) hx hb dX0_neighbourBits_32 (by decide) ?_
        exact ih (i + 1) (by omega) ls (by rw [bitsI_t b20]; exact lv_sub hl [2, 1, 0] rfl)
set_option maxHeartbeats 4000000 in
set_option maxRecDepth 100000 in
theorem c_X0_neighbourBits (l : Launch) (dC : Nat → ClassId) (dI : Nat → Nat → Nat) (h a1 a2 a3 a4 a5 : Nat) (cA : ClassId) (me tm : Int32) (fN fM fJ fT fC : Nat → Int32) : Met l yX0_neighbourBits wsX0_neighbourBits ({ frames := 1, cells := 0, slots := 0, locals := 21 }) (PR [.ref h] dC dI cA (wX h a1 a2 a3 a4 a5 cA me tm fN fM fJ fT fC)) (QcRead (xNb tm fN)) 0 0 (fun _ => False) := by
  refine Met.ofW (cc := cX0_neighbourBits) (maxL := 3) (ret := some .int) (by decide) rfl ?_
  intro p e s m args below meth c s₁ B hml hv
  obtain ⟨rfl, hP, hK⟩ := hv
  have hx := B.exec
  have hb := B.bytes
  have hr := B.returns
  have hts := atoms_spec (ws := wsX0_neighbourBits) B.pre
  have hown : s.vm.findClass RX0 = some m.cls := findClass_of_methodNamed B.named
  have hlocks := B.notSynchronized
  have S : CallFix p m c cX0_neighbourBits 3 s ([.ref h] : List Value).toArray wsX0_neighbourBits RX0 := ⟨hx, hb, hml, hown, hts⟩
  have hl := lv_entry ([.ref h]) (n := 3) (Nat.le_of_ble_eq_true rfl)
  rw [lg_entry_eq]
  generalize (lg_sl ([.ref h]) ++ List.replicate (3 - (lg_sl ([.ref h])).length) Slot.unset).toArray = ls at hl ⊢
  have hl : lv_has ls 3 [(0, .ref h)] := hl
  refine lv_iconst (v := 0) hx hb dX0_neighbourBits_0 (by decide) ?_
  refine lv_istore_n (lv' := [(1, .int ((0 : Int32))), (0, .ref h)]) hx hb dX0_neighbourBits_1 rfl hl (by decide) rfl (fun ls hl => ?_)
  refine lv_iconst (v := 0) hx hb dX0_neighbourBits_2 (by decide) ?_
  refine lv_istore_n (lv' := [(2, .int ((0 : Int32))), (1, .int ((0 : Int32))), (0, .ref h)]) hx hb dX0_neighbourBits_3 rfl hl (by decide) rfl (fun ls hl => ?_)
  refine lp_X0_neighbourBits_4 l dC dI h a1 a2 a3 a4 a5 cA me tm fN fM fJ fT fC S hK hP ⟨Nat.le_of_ble_eq_true rfl, Nat.le_of_ble_eq_true rfl⟩ (fun ls hl => ?_) 10 0 rfl ls (lv_sub hl [2, 1, 0] rfl)
  refine lv_iload_n hx hb dX0_neighbourBits_35 rfl (lv_at hl 1 rfl) ?_
  exact W.iret (v := bitsI (xNbq tm fN) 10) hx hb hr (fun t ht hW => ⟨rfl, ht⟩) (fun q h => absurd h List.not_mem_nil) dX0_neighbourBits_36
theorem hd_X0_neighbourBits : yX0_neighbourBits.cls = RX0 ∧ yX0_neighbourBits.cls ≠ "java/lang/invoke/MethodHandle" ∧ yX0_neighbourBits.cls ≠ "java/lang/invoke/VarHandle" ∧ (parseMethodDescriptor yX0_neighbourBits.desc).map (fun d => d.parameters.length) = some 0 := by decide +kernel
end
section
theorem iwsX0_isFirst : ∀ w ∈ u_ws RX0 TX0 7, w ∈ wsX0_isFirst := fun _ h => List.mem_cons_of_mem _ (List.mem_append_right _ h)
set_option maxHeartbeats 4000000 in
set_option maxRecDepth 100000 in
theorem c_X0_isFirst (l : Launch) (dC : Nat → ClassId) (dI : Nat → Nat → Nat) (h a1 a2 a3 a4 a5 : Nat) (cA : ClassId) (me tm : Int32) (fN fM fJ fT fC : Nat → Int32) : Met l yX0_isFirst wsX0_isFirst ({ frames := 2, cells := 0, slots := 0, locals := 43 }) (PR [.ref h] dC dI cA (wX h a1 a2 a3 a4 a5 cA me tm fN fM fJ fT fC)) (QcRead (bI (xFirst me (xNb tm fN)))) 0 0 (fun _ => False) := by
  refine Met.ofW (cc := cX0_isFirst) (maxL := 1) (ret := some .boolean) (by decide) rfl ?_
  intro p e s m args below meth c s₁ B hml hv
  obtain ⟨rfl, hP, hK⟩ := hv
  have hx := B.exec
  have hb := B.bytes
  have hr := B.returns
  have hts := atoms_spec (ws := wsX0_isFirst) B.pre
  have hown : s.vm.findClass RX0 = some m.cls := findClass_of_methodNamed B.named
  have hlocks := B.notSynchronized
  have S : CallFix p m c cX0_isFirst 1 s ([.ref h] : List Value).toArray wsX0_isFirst RX0 := ⟨hx, hb, hml, hown, hts⟩
  have hl := lv_entry ([.ref h]) (n := 1) (Nat.le_of_ble_eq_true rfl)
  rw [lg_entry_eq]
  generalize (lg_sl ([.ref h]) ++ List.replicate (1 - (lg_sl ([.ref h])).length) Slot.unset).toArray = ls at hl ⊢
  have hl : lv_has ls 1 [(0, .ref h)] := hl
  refine lv_aload_n hx hb dX0_isFirst_0 rfl (lv_at hl 0 rfl) ?_
  refine rd_V (As := []) (rest := []) (ci := 0) (qc := (RX0, TX0, 7)) S (c_X0_neighbourBits l dC dI h a1 a2 a3 a4 a5 cA me tm fN fM fJ fT fC) gX0_isFirst_X0_neighbourBits rfl ⟨rfl, rfl⟩ hd_X0_neighbourBits ⟨Nat.le_of_ble_eq_true rfl, Nat.le_of_ble_eq_true rfl⟩ hK hP rfl rfl rfl hl.1 rfl (Nat.le_of_ble_eq_true rfl) dX0_isFirst_1 ⟨Nat.le_of_ble_eq_true rfl, Nat.le_of_ble_eq_true rfl⟩ ?_
  refine lv_aload_n hx hb dX0_isFirst_4 rfl (lv_at hl 0 rfl) ?_
  refine va_get (D := (dC, dI)) (ci := 0) (v := .int me) (C := RX0) (T := TX0) (N := 7) hx hb hts iwsX0_isFirst hown hK hP 0 rfl rfl 0 (by decide) (hts (.fieldLink RX0 34 "BranchTimes" "me" "I") (by decide +kernel)) (fun _ h9 => h9) rfl dX0_isFirst_5 ?_
  refine lv_iconst (v := 1) hx hb dX0_isFirst_8 (by decide) ?_
  refine lv_iadd hx hb dX0_isFirst_9 ?_
  refine lv_ishr hx hb dX0_isFirst_10 ?_
  refine lv_if_ne (tgt := 18) hx hb dX0_isFirst_11 (by decide) (fun c11 => ?_) (fun c11 => ?_)
  · refine lv_iconst (v := 0) hx hb dX0_isFirst_18 (by decide) ?_
    have er : (0 : Int32) = bI (xFirst me (xNb tm fN)) := by simp [xFirst, bI, c11]
    exact W.zret (v := (0 : Int32)) (ty := .boolean) hx hb hr rfl (fun t ht hW => ⟨congrArg (fun z => Outcome.returned (some (Value.int z))) er, ht⟩) (fun q h => absurd h List.not_mem_nil) dX0_isFirst_19
  · refine lv_iconst (v := 1) hx hb dX0_isFirst_14 (by decide) ?_
    refine lv_goto (tgt := 19) hx hb dX0_isFirst_15 (by decide) ?_
    have er : (1 : Int32) = bI (xFirst me (xNb tm fN)) := by simp [xFirst, bI, c11]
    exact W.zret (v := (1 : Int32)) (ty := .boolean) hx hb hr rfl (fun t ht hW => ⟨congrArg (fun z => Outcome.returned (some (Value.int z))) er, ht⟩) (fun q h => absurd h List.not_mem_nil) dX0_isFirst_19
theorem hd_X0_isFirst : yX0_isFirst.cls = RX0 ∧ yX0_isFirst.cls ≠ "java/lang/invoke/MethodHandle" ∧ yX0_isFirst.cls ≠ "java/lang/invoke/VarHandle" ∧ (parseMethodDescriptor yX0_isFirst.desc).map (fun d => d.parameters.length) = some 0 := by decide +kernel

theorem iwsX0_isAsking : ∀ w ∈ u_ws RX0 TX0 7, w ∈ wsX0_isAsking := fun _ h => List.mem_cons_of_mem _ (List.mem_append_right _ h)
set_option maxHeartbeats 4000000 in
set_option maxRecDepth 100000 in
theorem c_X0_isAsking (l : Launch) (dC : Nat → ClassId) (dI : Nat → Nat → Nat) (h a1 a2 a3 a4 a5 : Nat) (cA : ClassId) (me tm : Int32) (fN fM fJ fT fC : Nat → Int32) : Met l yX0_isAsking wsX0_isAsking ({ frames := 2, cells := 0, slots := 0, locals := 43 }) (PR [.ref h] dC dI cA (wX h a1 a2 a3 a4 a5 cA me tm fN fM fJ fT fC)) (QcRead (bI (xAsk me (xNb tm fN)))) 0 0 (fun _ => False) := by
  refine Met.ofW (cc := cX0_isAsking) (maxL := 2) (ret := some .boolean) (by decide) rfl ?_
  intro p e s m args below meth c s₁ B hml hv
  obtain ⟨rfl, hP, hK⟩ := hv
  have hx := B.exec
  have hb := B.bytes
  have hr := B.returns
  have hts := atoms_spec (ws := wsX0_isAsking) B.pre
  have hown : s.vm.findClass RX0 = some m.cls := findClass_of_methodNamed B.named
  have hlocks := B.notSynchronized
  have S : CallFix p m c cX0_isAsking 2 s ([.ref h] : List Value).toArray wsX0_isAsking RX0 := ⟨hx, hb, hml, hown, hts⟩
  have hl := lv_entry ([.ref h]) (n := 2) (Nat.le_of_ble_eq_true rfl)
  rw [lg_entry_eq]
  generalize (lg_sl ([.ref h]) ++ List.replicate (2 - (lg_sl ([.ref h])).length) Slot.unset).toArray = ls at hl ⊢
  have hl : lv_has ls 2 [(0, .ref h)] := hl
  refine lv_iconst (v := 1) hx hb dX0_isAsking_0 (by decide) ?_
  refine lv_aload_n hx hb dX0_isAsking_1 rfl (lv_at hl 0 rfl) ?_
  refine va_get (D := (dC, dI)) (ci := 0) (v := .int me) (C := RX0) (T := TX0) (N := 7) hx hb hts iwsX0_isAsking hown hK hP 0 rfl rfl 0 (by decide) (hts (.fieldLink RX0 34 "BranchTimes" "me" "I") (by decide +kernel)) (fun _ h9 => h9) rfl dX0_isAsking_2 ?_
  refine lv_ishl hx hb dX0_isAsking_5 ?_
  refine lv_iconst (v := 1) hx hb dX0_isAsking_6 (by decide) ?_
  refine lv_isub hx hb dX0_isAsking_7 ?_
  refine lv_istore_n (lv' := [(1, .int ((((1 : Int32)) <<< (me &&& 31)) - ((1 : Int32)))), (0, .ref h)]) hx hb dX0_isAsking_8 rfl hl (by decide) rfl (fun ls hl => ?_)
  refine lv_aload_n hx hb dX0_isAsking_9 rfl (lv_at hl 1 rfl) ?_
  refine rd_V (As := []) (rest := []) (ci := 0) (qc := (RX0, TX0, 7)) S (c_X0_neighbourBits l dC dI h a1 a2 a3 a4 a5 cA me tm fN fM fJ fT fC) gX0_isAsking_X0_neighbourBits rfl ⟨rfl, rfl⟩ hd_X0_neighbourBits ⟨Nat.le_of_ble_eq_true rfl, Nat.le_of_ble_eq_true rfl⟩ hK hP rfl rfl rfl hl.1 rfl (Nat.le_of_ble_eq_true rfl) dX0_isAsking_10 ⟨Nat.le_of_ble_eq_true rfl, Nat.le_of_ble_eq_true rfl⟩ ?_
  refine lv_iload_n hx hb dX0_isAsking_13 rfl (lv_at hl 0 rfl) ?_
  refine lv_iand hx hb dX0_isAsking_14 ?_
  refine lv_if_ne (tgt := 22) hx hb dX0_isAsking_15 (by decide) (fun c15 => ?_) (fun c15 => ?_)
  · refine lv_iconst (v := 0) hx hb dX0_isAsking_22 (by decide) ?_
    have er : (0 : Int32) = bI (xAsk me (xNb tm fN)) := by simp [xAsk, bI, c15]
    exact W.zret (v := (0 : Int32)) (ty := .boolean) hx hb hr rfl (fun t ht hW => ⟨congrArg (fun z => Outcome.returned (some (Value.int z))) er, ht⟩) (fun q h => absurd h List.not_mem_nil) dX0_isAsking_23
  · refine lv_iconst (v := 1) hx hb dX0_isAsking_18 (by decide) ?_
    refine lv_goto (tgt := 23) hx hb dX0_isAsking_19 (by decide) ?_
    have er : (1 : Int32) = bI (xAsk me (xNb tm fN)) := by simp [xAsk, bI, c15]
    exact W.zret (v := (1 : Int32)) (ty := .boolean) hx hb hr rfl (fun t ht hW => ⟨congrArg (fun z => Outcome.returned (some (Value.int z))) er, ht⟩) (fun q h => absurd h List.not_mem_nil) dX0_isAsking_23
theorem hd_X0_isAsking : yX0_isAsking.cls = RX0 ∧ yX0_isAsking.cls ≠ "java/lang/invoke/MethodHandle" ∧ yX0_isAsking.cls ≠ "java/lang/invoke/VarHandle" ∧ (parseMethodDescriptor yX0_isAsking.desc).map (fun d => d.parameters.length) = some 0 := by decide +kernel

theorem iwsX0_isCrowded : ∀ w ∈ u_ws RX0 TX0 7, w ∈ wsX0_isCrowded := fun _ h => List.mem_cons_of_mem _ (List.mem_append_right _ h)
set_option maxHeartbeats 4000000 in
set_option maxRecDepth 100000 in
theorem c_X0_isCrowded (l : Launch) (dC : Nat → ClassId) (dI : Nat → Nat → Nat) (h a1 a2 a3 a4 a5 : Nat) (cA : ClassId) (me tm : Int32) (fN fM fJ fT fC : Nat → Int32) : Met l yX0_isCrowded wsX0_isCrowded ({ frames := 2, cells := 0, slots := 0, locals := 43 }) (PR [.ref h] dC dI cA (wX h a1 a2 a3 a4 a5 cA me tm fN fM fJ fT fC)) (QcRead (bI (xCrowd (xNb tm fN)))) 0 0 (fun _ => False) := by
  refine Met.ofW (cc := cX0_isCrowded) (maxL := 1) (ret := some .boolean) (by decide) rfl ?_
  intro p e s m args below meth c s₁ B hml hv
  obtain ⟨rfl, hP, hK⟩ := hv
  have hx := B.exec
  have hb := B.bytes
  have hr := B.returns
  have hts := atoms_spec (ws := wsX0_isCrowded) B.pre
  have hown : s.vm.findClass RX0 = some m.cls := findClass_of_methodNamed B.named
  have hlocks := B.notSynchronized
  have S : CallFix p m c cX0_isCrowded 1 s ([.ref h] : List Value).toArray wsX0_isCrowded RX0 := ⟨hx, hb, hml, hown, hts⟩
  have hl := lv_entry ([.ref h]) (n := 1) (Nat.le_of_ble_eq_true rfl)
  rw [lg_entry_eq]
  generalize (lg_sl ([.ref h]) ++ List.replicate (1 - (lg_sl ([.ref h])).length) Slot.unset).toArray = ls at hl ⊢
  have hl : lv_has ls 1 [(0, .ref h)] := hl
  refine lv_aload_n hx hb dX0_isCrowded_0 rfl (lv_at hl 0 rfl) ?_
  refine rd_V (As := []) (rest := []) (ci := 0) (qc := (RX0, TX0, 7)) S (c_X0_neighbourBits l dC dI h a1 a2 a3 a4 a5 cA me tm fN fM fJ fT fC) gX0_isCrowded_X0_neighbourBits rfl ⟨rfl, rfl⟩ hd_X0_neighbourBits ⟨Nat.le_of_ble_eq_true rfl, Nat.le_of_ble_eq_true rfl⟩ hK hP rfl rfl rfl hl.1 rfl (Nat.le_of_ble_eq_true rfl) dX0_isCrowded_1 ⟨Nat.le_of_ble_eq_true rfl, Nat.le_of_ble_eq_true rfl⟩ ?_
  refine rd_S (As := [.int (xNb tm fN)]) (rest := []) S (c_J6_bitCount_0f7a4 l (xNb tm fN)) gX0_isCrowded_J6_bitCount_0f7a4 rfl ⟨rfl, rfl⟩ hd_J6_bitCount_0f7a4 ⟨Nat.le_of_ble_eq_true rfl, Nat.le_of_ble_eq_true rfl⟩ rfl hl.1 rfl (Nat.le_of_ble_eq_true rfl) dX0_isCrowded_4 ⟨Nat.le_of_ble_eq_true rfl, Nat.le_of_ble_eq_true rfl⟩ ?_
  refine lv_iconst (v := 2) hx hb dX0_isCrowded_7 (by decide) ?_
  refine lv_icmp_lt (tgt := 15) hx hb dX0_isCrowded_8 (by decide) (fun c8 => ?_) (fun c8 => ?_)
  · refine lv_iconst (v := 0) hx hb dX0_isCrowded_15 (by decide) ?_
    have er : (0 : Int32) = bI (xCrowd (xNb tm fN)) := by simp [xCrowd, bI, c8]
    exact W.zret (v := (0 : Int32)) (ty := .boolean) hx hb hr rfl (fun t ht hW => ⟨congrArg (fun z => Outcome.returned (some (Value.int z))) er, ht⟩) (fun q h => absurd h List.not_mem_nil) dX0_isCrowded_16
  · refine lv_iconst (v := 1) hx hb dX0_isCrowded_11 (by decide) ?_
    refine lv_goto (tgt := 16) hx hb dX0_isCrowded_12 (by decide) ?_
    have er : (1 : Int32) = bI (xCrowd (xNb tm fN)) := by simp [xCrowd, bI, c8]
    exact W.zret (v := (1 : Int32)) (ty := .boolean) hx hb hr rfl (fun t ht hW => ⟨congrArg (fun z => Outcome.returned (some (Value.int z))) er, ht⟩) (fun q h => absurd h List.not_mem_nil) dX0_isCrowded_16
theorem hd_X0_isCrowded : yX0_isCrowded.cls = RX0 ∧ yX0_isCrowded.cls ≠ "java/lang/invoke/MethodHandle" ∧ yX0_isCrowded.cls ≠ "java/lang/invoke/VarHandle" ∧ (parseMethodDescriptor yX0_isCrowded.desc).map (fun d => d.parameters.length) = some 0 := by decide +kernel

theorem iwsX0_timeOfEffect : ∀ w ∈ u_ws RX0 TX0 7, w ∈ wsX0_timeOfEffect := fun _ h => List.mem_cons_of_mem _ (List.mem_append_right _ h)
set_option maxHeartbeats 4000000 in
set_option maxRecDepth 100000 in
theorem c_X0_timeOfEffect (l : Launch) (dC : Nat → ClassId) (dI : Nat → Nat → Nat) (h a1 a2 a3 a4 a5 : Nat) (cA : ClassId) (me tm : Int32) (fN fM fJ fT fC : Nat → Int32) : Met l yX0_timeOfEffect wsX0_timeOfEffect ({ frames := 3, cells := 0, slots := 0, locals := 63 }) (PR [.ref h] dC dI cA (wX h a1 a2 a3 a4 a5 cA me tm fN fM fJ fT fC)) (QcRead (xEff tm (xNb tm fN))) 0 0 (fun _ => False) := by
  refine Met.ofW (cc := cX0_timeOfEffect) (maxL := 1) (ret := some .int) (by decide) rfl ?_
  intro p e s m args below meth c s₁ B hml hv
  obtain ⟨rfl, hP, hK⟩ := hv
  have hx := B.exec
  have hb := B.bytes
  have hr := B.returns
  have hts := atoms_spec (ws := wsX0_timeOfEffect) B.pre
  have hown : s.vm.findClass RX0 = some m.cls := findClass_of_methodNamed B.named
  have hlocks := B.notSynchronized
  have S : CallFix p m c cX0_timeOfEffect 1 s ([.ref h] : List Value).toArray wsX0_timeOfEffect RX0 := ⟨hx, hb, hml, hown, hts⟩
  have hl := lv_entry ([.ref h]) (n := 1) (Nat.le_of_ble_eq_true rfl)
  rw [lg_entry_eq]
  generalize (lg_sl ([.ref h]) ++ List.replicate (1 - (lg_sl ([.ref h])).length) Slot.unset).toArray = ls at hl ⊢
  have hl : lv_has ls 1 [(0, .ref h)] := hl
  refine lv_aload_n hx hb dX0_timeOfEffect_0 rfl (lv_at hl 0 rfl) ?_
  refine rd_V (As := []) (rest := []) (ci := 0) (qc := (RX0, TX0, 7)) S (c_X0_isCrowded l dC dI h a1 a2 a3 a4 a5 cA me tm fN fM fJ fT fC) gX0_timeOfEffect_X0_isCrowded rfl ⟨rfl, rfl⟩ hd_X0_isCrowded ⟨Nat.le_of_ble_eq_true rfl, Nat.le_of_ble_eq_true rfl⟩ hK hP rfl rfl rfl hl.1 rfl (Nat.le_of_ble_eq_true rfl) dX0_timeOfEffect_1 ⟨Nat.le_of_ble_eq_true rfl, Nat.le_of_ble_eq_true rfl⟩ ?_
  refine lv_if_eq (tgt := 16) hx hb dX0_timeOfEffect_4 (by decide) (fun c4 => ?_) (fun c4 => ?_)
  · have b4 := bI_z c4
    refine lv_aload_n hx hb dX0_timeOfEffect_16 rfl (lv_at hl 0 rfl) ?_
    refine va_get (D := (dC, dI)) (ci := 0) (v := .int tm) (C := RX0) (T := TX0) (N := 7) hx hb hts iwsX0_timeOfEffect hown hK hP 0 rfl rfl 1 (by decide) (hts (.fieldLink RX0 38 "BranchTimes" "time" "I") (by decide +kernel)) (fun _ h9 => h9) rfl dX0_timeOfEffect_17 ?_
    have er : tm = xEff tm (xNb tm fN) := by simp [xEff, b4]
    exact W.iret (v := tm) hx hb hr (fun t ht hW => ⟨congrArg (fun z => Outcome.returned (some (Value.int z))) er, ht⟩) (fun q h => absurd h List.not_mem_nil) dX0_timeOfEffect_20
  · have b4 := bI_nz c4
    refine lv_aload_n hx hb dX0_timeOfEffect_7 rfl (lv_at hl 0 rfl) ?_
    refine va_get (D := (dC, dI)) (ci := 0) (v := .int tm) (C := RX0) (T := TX0) (N := 7) hx hb hts iwsX0_timeOfEffect hown hK hP 0 rfl rfl 1 (by decide) (hts (.fieldLink RX0 38 "BranchTimes" "time" "I") (by decide +kernel)) (fun _ h9 => h9) rfl dX0_timeOfEffect_8 ?_
    refine lv_iconst (v := 3) hx hb dX0_timeOfEffect_11 (by decide) ?_
    refine lv_iadd hx hb dX0_timeOfEffect_12 ?_
    refine lv_goto (tgt := 20) hx hb dX0_timeOfEffect_13 (by decide) ?_
    have er : tm + ((3 : Int32)) = xEff tm (xNb tm fN) := by simp [xEff, b4]
    exact W.iret (v := tm + ((3 : Int32))) hx hb hr (fun t ht hW => ⟨congrArg (fun z => Outcome.returned (some (Value.int z))) er, ht⟩) (fun q h => absurd h List.not_mem_nil) dX0_timeOfEffect_20
theorem hd_X0_timeOfEffect : yX0_timeOfEffect.cls = RX0 ∧ yX0_timeOfEffect.cls ≠ "java/lang/invoke/MethodHandle" ∧ yX0_timeOfEffect.cls ≠ "java/lang/invoke/VarHandle" ∧ (parseMethodDescriptor yX0_timeOfEffect.desc).map (fun d => d.parameters.length) = some 0 := by decide +kernel

theorem iwsX0_isJoinedForStar : ∀ w ∈ u_ws RX0 TX0 7, w ∈ wsX0_isJoinedForStar := fun _ h => List.mem_cons_of_mem _ (List.mem_append_right _ h)
set_option maxHeartbeats 4000000 in
set_option maxRecDepth 100000 in
theorem c_X0_isJoinedForStar (l : Launch) (dC : Nat → ClassId) (dI : Nat → Nat → Nat) (h a1 a2 a3 a4 a5 : Nat) (cA : ClassId) (me tm : Int32) (fN fM fJ fT fC : Nat → Int32) (g : Int32) (hg : xG g = true) : Met l yX0_isJoinedForStar wsX0_isJoinedForStar ({ frames := 1, cells := 0, slots := 0, locals := 21 }) (PR [.ref h, .int g] dC dI cA (wX h a1 a2 a3 a4 a5 cA me tm fN fM fJ fT fC)) (QcRead (bI (xStar tm fJ g))) 0 0 (fun _ => False) := by
  refine Met.ofW (cc := cX0_isJoinedForStar) (maxL := 2) (ret := some .boolean) (by decide) rfl ?_
  intro p e s m args below meth c s₁ B hml hv
  obtain ⟨rfl, hP, hK⟩ := hv
  have hx := B.exec
  have hb := B.bytes
  have hr := B.returns
  have hts := atoms_spec (ws := wsX0_isJoinedForStar) B.pre
  have hown : s.vm.findClass RX0 = some m.cls := findClass_of_methodNamed B.named
  have hlocks := B.notSynchronized
  have S : CallFix p m c cX0_isJoinedForStar 2 s ([.ref h, .int g] : List Value).toArray wsX0_isJoinedForStar RX0 := ⟨hx, hb, hml, hown, hts⟩
  have hl := lv_entry ([.ref h, .int g]) (n := 2) (Nat.le_of_ble_eq_true rfl)
  rw [lg_entry_eq]
  generalize (lg_sl ([.ref h, .int g]) ++ List.replicate (2 - (lg_sl ([.ref h, .int g])).length) Slot.unset).toArray = ls at hl ⊢
  have hl : lv_has ls 2 [(0, .ref h), (1, .int g)] := hl
  refine lv_aload_n hx hb dX0_isJoinedForStar_0 rfl (lv_at hl 0 rfl) ?_
  refine lv_aload_n hx hb dX0_isJoinedForStar_1 rfl (lv_at hl 0 rfl) ?_
  refine va_get (D := (dC, dI)) (ci := 0) (v := .ref a3) (C := RX0) (T := TX0) (N := 7) hx hb hts iwsX0_isJoinedForStar hown hK hP 0 rfl rfl 4 (by decide) (hts (.fieldLink RX0 16 "BranchTimes" "joinedTill" "[I") (by decide +kernel)) (fun _ h9 => h9) rfl dX0_isJoinedForStar_2 ?_
  refine lv_iload_n hx hb dX0_isJoinedForStar_5 rfl (lv_at hl 1 rfl) ?_
  refine lv_iconst (v := -1) hx hb dX0_isJoinedForStar_6 (by decide) ?_
  refine rd_S (As := [.int g, .int ((-1 : Int32))]) (rest := [.ref a3, .ref h]) S (c_X0_branchPlace l g ((-1 : Int32))) gX0_isJoinedForStar_X0_branchPlace rfl ⟨rfl, rfl⟩ hd_X0_branchPlace ⟨Nat.le_of_ble_eq_true rfl, Nat.le_of_ble_eq_true rfl⟩ rfl hl.1 rfl (Nat.le_of_ble_eq_true rfl) dX0_isJoinedForStar_7 ⟨Nat.le_of_ble_eq_true rfl, Nat.le_of_ble_eq_true rfl⟩ ?_
  refine va_iald (D := (dC, dI)) hx hb hK hP 3 0 rfl rfl (Pl_in hg (by decide)) dX0_isJoinedForStar_10 ?_
  refine rd_V (As := [.int (fJ (xPl g ((-1 : Int32))).toNatClampNeg)]) (rest := []) (ci := 0) (qc := (RX0, TX0, 7)) S (c_X0_stands l dC dI h a1 a2 a3 a4 a5 cA me tm fN fM fJ fT fC (fJ (xPl g ((-1 : Int32))).toNatClampNeg)) gX0_isJoinedForStar_X0_stands rfl ⟨rfl, rfl⟩ hd_X0_stands ⟨Nat.le_of_ble_eq_true rfl, Nat.le_of_ble_eq_true rfl⟩ hK hP rfl rfl rfl hl.1 rfl (Nat.le_of_ble_eq_true rfl) dX0_isJoinedForStar_11 ⟨Nat.le_of_ble_eq_true rfl, Nat.le_of_ble_eq_true rfl⟩ ?_
  exact W.zret (v := bI (xSt tm (fJ (xPl g ((-1 : Int32))).toNatClampNeg))) (ty := .boolean) hx hb hr (nar_bI _) (fun t ht hW => ⟨rfl, ht⟩) (fun q h => absurd h List.not_mem_nil) dX0_isJoinedForStar_14
theorem hd_X0_isJoinedForStar : yX0_isJoinedForStar.cls = RX0 ∧ yX0_isJoinedForStar.cls ≠ "java/lang/invoke/MethodHandle" ∧ yX0_isJoinedForStar.cls ≠ "java/lang/invoke/VarHandle" ∧ (parseMethodDescriptor yX0_isJoinedForStar.desc).map (fun d => d.parameters.length) = some 1 := by decide +kernel

theorem iwsX0_isCutOff : ∀ w ∈ u_ws RX0 TX0 7, w ∈ wsX0_isCutOff := fun _ h => List.mem_cons_of_mem _ (List.mem_append_right _ h)
set_option maxHeartbeats 4000000 in
set_option maxRecDepth 100000 in
theorem c_X0_isCutOff (l : Launch) (dC : Nat → ClassId) (dI : Nat → Nat → Nat) (h a1 a2 a3 a4 a5 : Nat) (cA : ClassId) (me tm : Int32) (fN fM fJ fT fC : Nat → Int32) (g q : Int32) (hg : xG g = true) (hq : xSrc q = true) : Met l yX0_isCutOff wsX0_isCutOff ({ frames := 1, cells := 0, slots := 0, locals := 21 }) (PR [.ref h, .int g, .int q] dC dI cA (wX h a1 a2 a3 a4 a5 cA me tm fN fM fJ fT fC)) (QcRead (bI (xCut tm fT fC g q))) 0 0 (fun _ => False) := by
  refine Met.ofW (cc := cX0_isCutOff) (maxL := 3) (ret := some .boolean) (by decide) rfl ?_
  intro p e s m args below meth c s₁ B hml hv
  obtain ⟨rfl, hP, hK⟩ := hv
  have hx := B.exec
  have hb := B.bytes
  have hr := B.returns
  have hts := atoms_spec (ws := wsX0_isCutOff) B.pre
  have hown : s.vm.findClass RX0 = some m.cls := findClass_of_methodNamed B.named
  have hlocks := B.notSynchronized
  have S : CallFix p m c cX0_isCutOff 3 s ([.ref h, .int g, .int q] : List Value).toArray wsX0_isCutOff RX0 := ⟨hx, hb, hml, hown, hts⟩
  have hl := lv_entry ([.ref h, .int g, .int q]) (n := 3) (Nat.le_of_ble_eq_true rfl)
  rw [lg_entry_eq]
  generalize (lg_sl ([.ref h, .int g, .int q]) ++ List.replicate (3 - (lg_sl ([.ref h, .int g, .int q])).length) Slot.unset).toArray = ls at hl ⊢
  have hl : lv_has ls 3 [(0, .ref h), (1, .int g), (2, .int q)] := hl
  refine lv_aload_n hx hb dX0_isCutOff_0 rfl (lv_at hl 0 rfl) ?_
  refine va_get (D := (dC, dI)) (ci := 0) (v := .ref a4) (C := RX0) (T := TX0) (N := 7) hx hb hts iwsX0_isCutOff hown hK hP 0 rfl rfl 5 (by decide) (hts (.fieldLink RX0 19 "BranchTimes" "told" "[I") (by decide +kernel)) (fun _ h9 => h9) rfl dX0_isCutOff_1 ?_
  refine lv_iload_n hx hb dX0_isCutOff_4 rfl (lv_at hl 1 rfl) ?_
  refine va_iald (D := (dC, dI)) hx hb hK hP 4 0 rfl rfl (G_in hg) dX0_isCutOff_5 ?_
  refine lv_iload_n hx hb dX0_isCutOff_6 rfl (lv_at hl 2 rfl) ?_
  refine rd_S (As := [.int (fT g.toNatClampNeg), .int q]) (rest := []) S (c_X0_hasBit l (fT g.toNatClampNeg) q) gX0_isCutOff_X0_hasBit rfl ⟨rfl, rfl⟩ hd_X0_hasBit ⟨Nat.le_of_ble_eq_true rfl, Nat.le_of_ble_eq_true rfl⟩ rfl hl.1 rfl (Nat.le_of_ble_eq_true rfl) dX0_isCutOff_7 ⟨Nat.le_of_ble_eq_true rfl, Nat.le_of_ble_eq_true rfl⟩ ?_
  refine lv_if_eq (tgt := 34) hx hb dX0_isCutOff_10 (by decide) (fun c10 => ?_) (fun c10 => ?_)
  · have b10 := bI_z c10
    refine lv_iconst (v := 0) hx hb dX0_isCutOff_34 (by decide) ?_
    have er : (0 : Int32) = bI (xCut tm fT fC g q) := by simp [xCut, bI, b10]
    exact W.zret (v := (0 : Int32)) (ty := .boolean) hx hb hr rfl (fun t ht hW => ⟨congrArg (fun z => Outcome.returned (some (Value.int z))) er, ht⟩) (fun q h => absurd h List.not_mem_nil) dX0_isCutOff_35
  · have b10 := bI_nz c10
    refine lv_aload_n hx hb dX0_isCutOff_13 rfl (lv_at hl 0 rfl) ?_
    refine va_get (D := (dC, dI)) (ci := 0) (v := .int tm) (C := RX0) (T := TX0) (N := 7) hx hb hts iwsX0_isCutOff hown hK hP 0 rfl rfl 1 (by decide) (hts (.fieldLink RX0 38 "BranchTimes" "time" "I") (by decide +kernel)) (fun _ h9 => h9) rfl dX0_isCutOff_14 ?_
    refine lv_aload_n hx hb dX0_isCutOff_17 rfl (lv_at hl 0 rfl) ?_
    refine va_get (D := (dC, dI)) (ci := 0) (v := .ref a5) (C := RX0) (T := TX0) (N := 7) hx hb hts iwsX0_isCutOff hown hK hP 0 rfl rfl 6 (by decide) (hts (.fieldLink RX0 22 "BranchTimes" "cutFrom" "[I") (by decide +kernel)) (fun _ h9 => h9) rfl dX0_isCutOff_18 ?_
    refine lv_iload_n hx hb dX0_isCutOff_21 rfl (lv_at hl 1 rfl) ?_
    refine lv_iload_n hx hb dX0_isCutOff_22 rfl (lv_at hl 2 rfl) ?_
    refine rd_S (As := [.int g, .int q]) (rest := [.ref a5, .int tm]) S (c_X0_cutPlace l g q) gX0_isCutOff_X0_cutPlace rfl ⟨rfl, rfl⟩ hd_X0_cutPlace ⟨Nat.le_of_ble_eq_true rfl, Nat.le_of_ble_eq_true rfl⟩ rfl hl.1 rfl (Nat.le_of_ble_eq_true rfl) dX0_isCutOff_23 ⟨Nat.le_of_ble_eq_true rfl, Nat.le_of_ble_eq_true rfl⟩ ?_
    refine va_iald (D := (dC, dI)) hx hb hK hP 5 0 rfl rfl (Cp_in hg hq) dX0_isCutOff_26 ?_
    refine lv_icmp_lt (tgt := 34) hx hb dX0_isCutOff_27 (by decide) (fun c27 => ?_) (fun c27 => ?_)
    · refine lv_iconst (v := 0) hx hb dX0_isCutOff_34 (by decide) ?_
      have er : (0 : Int32) = bI (xCut tm fT fC g q) := by simp [xCut, bI, b10, c27]
      exact W.zret (v := (0 : Int32)) (ty := .boolean) hx hb hr rfl (fun t ht hW => ⟨congrArg (fun z => Outcome.returned (some (Value.int z))) er, ht⟩) (fun q h => absurd h List.not_mem_nil) dX0_isCutOff_35
    · refine lv_iconst (v := 1) hx hb dX0_isCutOff_30 (by decide) ?_
      refine lv_goto (tgt := 35) hx hb dX0_isCutOff_31 (by decide) ?_
      have er : (1 : Int32) = bI (xCut tm fT fC g q) := by simp [xCut, bI, b10, c27]
      exact W.zret (v := (1 : Int32)) (ty := .boolean) hx hb hr rfl (fun t ht hW => ⟨congrArg (fun z => Outcome.returned (some (Value.int z))) er, ht⟩) (fun q h => absurd h List.not_mem_nil) dX0_isCutOff_35
theorem hd_X0_isCutOff : yX0_isCutOff.cls = RX0 ∧ yX0_isCutOff.cls ≠ "java/lang/invoke/MethodHandle" ∧ yX0_isCutOff.cls ≠ "java/lang/invoke/VarHandle" ∧ (parseMethodDescriptor yX0_isCutOff.desc).map (fun d => d.parameters.length) = some 2 := by decide +kernel

theorem iwsX0_sourcesThatGo : ∀ w ∈ u_ws RX0 TX0 7, w ∈ wsX0_sourcesThatGo := fun _ h => List.mem_cons_of_mem _ (List.mem_append_right _ h)
set_option maxHeartbeats 4000000 in
set_option maxRecDepth 100000 in
theorem lp_X0_sourcesThatGo_34 {p : Program} {e : Env} {s : State} {m : MethodId} {args : Array Value} {below : List Frame} {meth : Method} {c : Code} {cells slots : Nat} {Q : State → Prop} {H : Heap} {locs : List Loc} (l : Launch) (dC : Nat → ClassId) (dI : Nat → Nat → Nat) (h a1 a2 a3 a4 a5 : Nat) (cA : ClassId) (me tm : Int32) (fN fM fJ fT fC : Nat → Int32) (g : Int32) (hg : xG g = true) (S : CallFix p m c cX0_sourcesThatGo 5 s args wsX0_sourcesThatGo RX0) (hK : va_K (dC, dI) vwCl [(cA, .int)] s) (hP : va_P (dC, dI) vwCl (wX h a1 a2 a3 a4 a5 cA me tm fN fM fJ fT fC) H) (hcs : cells + 0 ≤ 0 ∧ slots + 0 ≤ 0) (k : ∀ (ls : Array Slot), lv_has ls 5 [(0, .ref h), (1, .int g), (2, .int (bI (xStar tm fJ g))), (3, .int (bitsI (xGoq tm fJ fT fC g) 16)), (4, .int (nI 16))] → W p l e ({ frames := 3, cells := 0, slots := 0, locals := 63 }) s m args below meth c H locs cells slots Q (F0 m 86 ls [])) : ∀ (n i : Nat), i + n = 16 → ∀ (ls : Array Slot), lv_has ls 5 [(0, .ref h), (1, .int g), (2, .int (bI (xStar tm fJ g))), (3, .int (bitsI (xGoq tm fJ fT fC g) i)), (4, .int (nI i))] → W p l e ({ frames := 3, cells := 0, slots := 0, locals := 63 }) s m args below meth c H locs cells slots Q (F0 m 34 ls []) := by
  obtain ⟨hx, hb, hml, hown, hts⟩ := id S
  intro n
  induction n with
  | zero =>
    intro i hi ls hl
    obtain rfl : i = 16 := by omega
    refine lv_iload hx hb dX0_sourcesThatGo_34 (lv_at hl 4 rfl) ?_
    refine lv_bipush (v := 16) hx hb dX0_sourcesThatGo_36 (by decide) ?_
    refine lv_icmp_ge (tgt := 86) hx hb dX0_sourcesThatGo_38 (by decide) (fun c38 => ?_) (fun c38 => ?_)
    · exact k ls (lv_sub hl [0, 1, 2, 3, 4] rfl)
    · exact absurd c38 (by decide)
  | succ n ih =>
    intro i hi ls hl
    have hlt : i < 16 := by omega
    have hcl : (nI i).toNatClampNeg = i := nI_clamp (by omega)
    refine lv_iload hx hb dX0_sourcesThatGo_34 (lv_at hl 4 rfl) ?_
    refine lv_bipush (v := 16) hx hb dX0_sourcesThatGo_36 (by decide) ?_
    refine lv_icmp_ge (tgt := 86) hx hb dX0_sourcesThatGo_38 (by decide) (fun c38 => ?_) (fun c38 => ?_)
    · exact absurd c38 (nI_ge hlt (by decide))
    · refine lv_iload_n hx hb dX0_sourcesThatGo_41 rfl (lv_at hl 2 rfl) ?_
      refine lv_if_eq (tgt := 55) hx hb dX0_sourcesThatGo_42 (by decide) (fun c42 => ?_) (fun c42 => ?_)
      · have b42 := bI_z c42
        refine lv_aload_n hx hb dX0_sourcesThatGo_55 rfl (lv_at hl 0 rfl) ?_
        refine lv_aload_n hx hb dX0_sourcesThatGo_56 rfl (lv_at hl 0 rfl) ?_
        refine va_get (D := (dC, dI)) (ci := 0) (v := .ref a3) (C := RX0) (T := TX0) (N := 7) hx hb hts iwsX0_sourcesThatGo hown hK hP 0 rfl rfl 4 (by decide) (hts (.fieldLink RX0 16 "BranchTimes" "joinedTill" "[I") (by decide +kernel)) (fun _ h9 => h9) rfl dX0_sourcesThatGo_57 ?_
        refine lv_iload_n hx hb dX0_sourcesThatGo_60 rfl (lv_at hl 1 rfl) ?_
        refine lv_iload hx hb dX0_sourcesThatGo_61 (lv_at hl 4 rfl) ?_
        refine rd_S (As := [.int g, .int (nI i)]) (rest := [.ref a3, .ref h]) S (c_X0_branchPlace l g (nI i)) gX0_sourcesThatGo_X0_branchPlace rfl ⟨rfl, rfl⟩ hd_X0_branchPlace ⟨Nat.le_of_ble_eq_true rfl, Nat.le_of_ble_eq_true rfl⟩ rfl hl.1 rfl (Nat.le_of_ble_eq_true rfl) dX0_sourcesThatGo_63 hcs ?_
        refine va_iald (D := (dC, dI)) hx hb hK hP 3 0 rfl rfl (Pl_in hg (Br_src (xSrc_nI hlt))) dX0_sourcesThatGo_66 ?_
        refine rd_V (As := [.int (fJ (xPl g (nI i)).toNatClampNeg)]) (rest := []) (ci := 0) (qc := (RX0, TX0, 7)) S (c_X0_stands l dC dI h a1 a2 a3 a4 a5 cA me tm fN fM fJ fT fC (fJ (xPl g (nI i)).toNatClampNeg)) gX0_sourcesThatGo_X0_stands rfl ⟨rfl, rfl⟩ hd_X0_stands ⟨Nat.le_of_ble_eq_true rfl, Nat.le_of_ble_eq_true rfl⟩ hK hP rfl rfl rfl hl.1 rfl (Nat.le_of_ble_eq_true rfl) dX0_sourcesThatGo_67 hcs ?_
        refine lv_if_eq (tgt := 80) hx hb dX0_sourcesThatGo_70 (by decide) (fun c70 => ?_) (fun c70 => ?_)
        · have b70 := bI_z c70
          refine lv_iinc (v := nI (i + 1)) (lv' := [(4, .int (nI (i + 1))), (0, .ref h), (1, .int g), (2, .int (bI (xStar tm fJ g))), (3, .int (bitsI (xGoq tm fJ fT fC g) i))]) hx hb dX0_sourcesThatGo_80 hl (k := 4) rfl (nI_1 _) (by decide) rfl (fun ls hl => ?_)
          refine lv_goto (tgt := 34) hx hb dX0_sourcesThatGo_83 (by decide) ?_
          exact ih (i + 1) (by omega) ls (by rw [bitsI_f (q := xGoq tm fJ fT fC g) (k := i) (by simp [xGoq, b42, b70])]; exact lv_sub hl [1, 2, 3, 4, 0] rfl)
        · have b70 := bI_nz c70
          refine lv_iload_n hx hb dX0_sourcesThatGo_73 rfl (lv_at hl 3 rfl) ?_
          refine lv_iconst (v := 1) hx hb dX0_sourcesThatGo_74 (by decide) ?_
          refine lv_iload hx hb dX0_sourcesThatGo_75 (lv_at hl 4 rfl) ?_
          refine lv_ishl hx hb dX0_sourcesThatGo_77 ?_
          refine lv_ior hx hb dX0_sourcesThatGo_78 ?_
          refine lv_istore_n (lv' := [(3, .int ((bitsI (xGoq tm fJ fT fC g) i) ||| (((1 : Int32)) <<< ((nI i) &&& 31)))), (0, .ref h), (1, .int g), (2, .int (bI (xStar tm fJ g))), (4, .int (nI i))]) hx hb dX0_sourcesThatGo_79 rfl hl (by decide) rfl (fun ls hl => ?_)
          refine lv_iinc (v := nI (i + 1)) (lv' := [(4, .int (nI (i + 1))), (3, .int ((bitsI (xGoq tm fJ fT fC g) i) ||| (((1 : Int32)) <<< ((nI i) &&& 31)))), (0, .ref h), (1, .int g), (2, .int (bI (xStar tm fJ g)))]) hx hb dX0_sourcesThatGo_80 hl (k := 4) rfl (nI_1 _) (by decide) rfl (fun ls hl => ?_)
          refine lv_goto (tgt := 34) hx hb dX0_sourcesThatGo_83 (by decide) ?_
          exact ih (i + 1) (by omega) ls (by rw [bitsI_t (q := xGoq tm fJ fT fC g) (k := i) (by simp [xGoq, b42, b70])]; exact lv_sub hl [2, 3, 4, 1, 0] rfl)
      · have b42 := bI_nz c42
        refine lv_aload_n hx hb dX0_sourcesThatGo_45 rfl (lv_at hl 0 rfl) ?_
        refine lv_iload_n hx hb dX0_sourcesThatGo_46 rfl (lv_at hl 1 rfl) ?_
        refine lv_iload hx hb dX0_sourcesThatGo_47 (lv_at hl 4 rfl) ?_
        refine rd_V (As := [.int g, .int (nI i)]) (rest := []) (ci := 0) (qc := (RX0, TX0, 7)) S (c_X0_isCutOff l dC dI h a1 a2 a3 a4 a5 cA me tm fN fM fJ fT fC g (nI i) hg (xSrc_nI hlt)) gX0_sourcesThatGo_X0_isCutOff rfl ⟨rfl, rfl⟩ hd_X0_isCutOff ⟨Nat.le_of_ble_eq_true rfl, Nat.le_of_ble_eq_true rfl⟩ hK hP rfl rfl rfl hl.1 rfl (Nat.le_of_ble_eq_true rfl) dX0_sourcesThatGo_49 hcs ?_
        refine lv_if_eq (tgt := 73) hx hb dX0_sourcesThatGo_52 (by decide) (fun c52 => ?_) (fun c52 => ?_)
        · have b52 := bI_z c52
          refine lv_iload_n hx hb dX0_sourcesThatGo_73 rfl (lv_at hl 3 rfl) ?_
          refine lv_iconst (v := 1) hx hb dX0_sourcesThatGo_74 (by decide) ?_
          refine lv_iload hx hb dX0_sourcesThatGo_75 (lv_at hl 4 rfl) ?_
          refine lv_ishl hx hb dX0_sourcesThatGo_77 ?_
          refine lv_ior hx hb dX0_sourcesThatGo_78 ?_
          refine lv_istore_n (lv' := [(3, .int ((bitsI (xGoq tm fJ fT fC g) i) ||| (((1 : Int32)) <<< ((nI i) &&& 31)))), (0, .ref h), (1, .int g), (2, .int (bI (xStar tm fJ g))), (4, .int (nI i))]) hx hb dX0_sourcesThatGo_79 rfl hl (by decide) rfl (fun ls hl => ?_)
          refine lv_iinc (v := nI (i + 1)) (lv' := [(4, .int (nI (i + 1))), (3, .int ((bitsI (xGoq tm fJ fT fC g) i) ||| (((1 : Int32)) <<< ((nI i) &&& 31)))), (0, .ref h), (1, .int g), (2, .int (bI (xStar tm fJ g)))]) hx hb dX0_sourcesThatGo_80 hl (k := 4) rfl (nI_1 _) (by decide) rfl (fun ls hl => ?_)
          refine lv_goto (tgt := 34) hx hb dX0_sourcesThatGo_83 (by decide) ?_
          exact ih (i + 1) (by omega) ls (by rw [bitsI_t (q := xGoq tm fJ fT fC g) (k := i) (by simp [xGoq, b42, b52])]; exact lv_sub hl [2, 3, 4, 1, 0] rfl)
        · have b52 := bI_nz c52
          refine lv_aload_n hx hb dX0_sourcesThatGo_55 rfl (lv_at hl 0 rfl) ?_
          refine lv_aload_n hx hb dX0_sourcesThatGo_56 rfl (lv_at hl 0 rfl) ?_
          refine va_get (D := (dC, dI)) (ci := 0) (v := .ref a3) (C := RX0) (T := TX0) (N := 7) hx hb hts iwsX0_sourcesThatGo hown hK hP 0 rfl rfl 4 (by decide) (hts (.fieldLink RX0 16 "BranchTimes" "joinedTill" "[I") (by decide +kernel)) (fun _ h9 => h9) rfl dX0_sourcesThatGo_57 ?_
          refine lv_iload_n hx hb dX0_sourcesThatGo_60 rfl (lv_at hl 1 rfl) ?_
          refine lv_iload hx hb dX0_sourcesThatGo_61 (lv_at hl 4 rfl) ?_
          refine rd_S (As := [.int g, .int (nI i)]) (rest := [.ref a3, .ref h]) S (c_X0_branchPlace l g (nI i)) gX0_sourcesThatGo_X0_branchPlace rfl ⟨rfl, rfl⟩ hd_X0_branchPlace ⟨Nat.le_of_ble_eq_true rfl, Nat.le_of_ble_eq_true rfl⟩ rfl hl.1 rfl (Nat.le_of_ble_eq_true rfl) dX0_sourcesThatGo_63 hcs ?_
          refine va_iald (D := (dC, dI)) hx hb hK hP 3 0 rfl rfl (Pl_in hg (Br_src (xSrc_nI hlt))) dX0_sourcesThatGo_66 ?_
          refine rd_V (As := [.int (fJ (xPl g (nI i)).toNatClampNeg)]) (rest := []) (ci := 0) (qc := (RX0, TX0, 7)) S (c_X0_stands l dC dI h a1 a2 a3 a4 a5 cA me tm fN fM fJ fT fC (fJ (xPl g (nI i)).toNatClampNeg)) gX0_sourcesThatGo_X0_stands rfl ⟨rfl, rfl⟩ hd_X0_stands ⟨Nat.le_of_ble_eq_true rfl, Nat.le_of_ble_eq_true rfl⟩ hK hP rfl rfl rfl hl.1 rfl (Nat.le_of_ble_eq_true rfl) dX0_sourcesThatGo_67 hcs ?_
          refine lv_if_eq (tgt := 80) hx hb dX0_sourcesThatGo_70 (by decide) (fun c70 => ?_) (fun c70 => ?_)
          · have b70 := bI_z c70
            refine lv_iinc (v := nI (i + 1)) (lv' := [(4, .int (nI (i + 1))), (0, .ref h), (1, .int g), (2, .int (bI (xStar tm fJ g))), (3, .int (bitsI (xGoq tm fJ fT fC g) i))]) hx hb dX0_sourcesThatGo_80 hl (k := 4) rfl (nI_1 _) (by decide) rfl (fun ls hl => ?_)
            refine lv_goto (tgt := 34) hx hb dX0_sourcesThatGo_83 (by decide) ?_
            exact ih (i + 1) (by omega) ls (by rw [bitsI_f (q := xGoq tm fJ fT fC g) (k := i) (by simp [xGoq, b42, b52, b70])]; exact lv_sub hl [1, 2, 3, 4, 0] rfl)
          · have b70 := bI_nz c70
            refine lv_iload_n hx hb dX0_sourcesThatGo_73 rfl (lv_at hl 3 rfl) ?_
            refine lv_iconst (v := 1) hx hb dX0_sourcesThatGo_74 (by decide) ?_
            refine lv_iload hx hb dX0_sourcesThatGo_75 (lv_at hl 4 rfl) ?_
            refine lv_ishl hx hb dX0_sourcesThatGo_77 ?_
            refine lv_ior hx hb dX0_sourcesThatGo_78 ?_
            refine lv_istore_n (lv' := [(3, .int ((bitsI (xGoq tm fJ fT fC g) i) ||| (((1 : Int32)) <<< ((nI i) &&& 31)))), (0, .ref h), (1, .int g), (2, .int (bI (xStar tm fJ g))), (4, .int (nI i))]) hx hb dX0_sourcesThatGo_79 rfl hl (by decide) rfl (fun ls hl => ?_)
            refine lv_iinc (v := nI (i + 1)) (lv' := [(4, .int (nI (i + 1))), (3, .int ((bitsI (xGoq tm fJ fT fC g) i) ||| (((1 : Int32)) <<< ((nI i) &&& 31)))), (0, .ref h), (1, .int g), (2, .int (bI (xStar tm fJ g)))]) hx hb dX0_sourcesThatGo_80 hl (k := 4) rfl (nI_1 _) (by decide) rfl (fun ls hl => ?_)
            refine lv_goto (tgt := 34) hx hb dX0_sourcesThatGo_83 (by decide) ?_
            exact ih (i + 1) (by omega) ls (by rw [bitsI_t (q := xGoq tm fJ fT fC g) (k := i) (by simp [xGoq, b42, b52, b70])]; exact lv_sub hl [2, 3, 4, 1, 0] rfl)
set_option maxHeartbeats 4000000 in
set_option maxRecDepth 100000 in
theorem c_X0_sourcesThatGo (l : Launch) (dC : Nat → ClassId) (dI : Nat → Nat → Nat) (h a1 a2 a3 a4 a5 : Nat) (cA : ClassId) (me tm : Int32) (fN fM fJ fT fC : Nat → Int32) (g : Int32) (hg : xG g = true) : Met l yX0_sourcesThatGo wsX0_sourcesThatGo ({ frames := 3, cells := 0, slots := 0, locals := 63 }) (PR [.ref h, .int g] dC dI cA (wX h a1 a2 a3 a4 a5 cA me tm fN fM fJ fT fC)) (QcRead (xGo me tm fN fM fJ fT fC g)) 0 0 (fun _ => False) := by
  refine Met.ofW (cc := cX0_sourcesThatGo) (maxL := 5) (ret := some .int) (by decide) rfl ?_
  intro p e s m args below meth c s₁ B hml hv
  obtain ⟨rfl, hP, hK⟩ := hv
  have hx := B.exec
  have hb := B.bytes
  have hr := B.returns
  have hts := atoms_spec (ws := wsX0_sourcesThatGo) B.pre
  have hown : s.vm.findClass RX0 = some m.cls := findClass_of_methodNamed B.named
  have hlocks := B.notSynchronized
  have S : CallFix p m c cX0_sourcesThatGo 5 s ([.ref h, .int g] : List Value).toArray wsX0_sourcesThatGo RX0 := ⟨hx, hb, hml, hown, hts⟩
  have hl := lv_entry ([.ref h, .int g]) (n := 5) (Nat.le_of_ble_eq_true rfl)
  rw [lg_entry_eq]
  generalize (lg_sl ([.ref h, .int g]) ++ List.replicate (5 - (lg_sl ([.ref h, .int g])).length) Slot.unset).toArray = ls at hl ⊢
  have hl : lv_has ls 5 [(0, .ref h), (1, .int g)] := hl
  refine lv_aload_n hx hb dX0_sourcesThatGo_0 rfl (lv_at hl 0 rfl) ?_
  refine lv_aload_n hx hb dX0_sourcesThatGo_1 rfl (lv_at hl 0 rfl) ?_
  refine va_get (D := (dC, dI)) (ci := 0) (v := .ref a2) (C := RX0) (T := TX0) (N := 7) hx hb hts iwsX0_sourcesThatGo hown hK hP 0 rfl rfl 3 (by decide) (hts (.fieldLink RX0 13 "BranchTimes" "membersTill" "[I") (by decide +kernel)) (fun _ h9 => h9) rfl dX0_sourcesThatGo_2 ?_
  refine lv_iload_n hx hb dX0_sourcesThatGo_5 rfl (lv_at hl 1 rfl) ?_
  refine va_iald (D := (dC, dI)) hx hb hK hP 2 0 rfl rfl (G_in hg) dX0_sourcesThatGo_6 ?_
  refine rd_V (As := [.int (fM g.toNatClampNeg)]) (rest := []) (ci := 0) (qc := (RX0, TX0, 7)) S (c_X0_stands l dC dI h a1 a2 a3 a4 a5 cA me tm fN fM fJ fT fC (fM g.toNatClampNeg)) gX0_sourcesThatGo_X0_stands rfl ⟨rfl, rfl⟩ hd_X0_stands ⟨Nat.le_of_ble_eq_true rfl, Nat.le_of_ble_eq_true rfl⟩ hK hP rfl rfl rfl hl.1 rfl (Nat.le_of_ble_eq_true rfl) dX0_sourcesThatGo_7 ⟨Nat.le_of_ble_eq_true rfl, Nat.le_of_ble_eq_true rfl⟩ ?_
  refine lv_if_eq (tgt := 23) hx hb dX0_sourcesThatGo_10 (by decide) (fun c10 => ?_) (fun c10 => ?_)
  · have b10 := bI_z c10
    refine lv_aload_n hx hb dX0_sourcesThatGo_23 rfl (lv_at hl 0 rfl) ?_
    refine lv_iload_n hx hb dX0_sourcesThatGo_24 rfl (lv_at hl 1 rfl) ?_
    refine rd_V (As := [.int g]) (rest := []) (ci := 0) (qc := (RX0, TX0, 7)) S (c_X0_isJoinedForStar l dC dI h a1 a2 a3 a4 a5 cA me tm fN fM fJ fT fC g hg) gX0_sourcesThatGo_X0_isJoinedForStar rfl ⟨rfl, rfl⟩ hd_X0_isJoinedForStar ⟨Nat.le_of_ble_eq_true rfl, Nat.le_of_ble_eq_true rfl⟩ hK hP rfl rfl rfl hl.1 rfl (Nat.le_of_ble_eq_true rfl) dX0_sourcesThatGo_25 ⟨Nat.le_of_ble_eq_true rfl, Nat.le_of_ble_eq_true rfl⟩ ?_
    refine lv_istore_n (lv' := [(2, .int (bI (xStar tm fJ g))), (0, .ref h), (1, .int g)]) hx hb dX0_sourcesThatGo_28 rfl hl (by decide) rfl (fun ls hl => ?_)
    refine lv_iconst (v := 0) hx hb dX0_sourcesThatGo_29 (by decide) ?_
    refine lv_istore_n (lv' := [(3, .int ((0 : Int32))), (2, .int (bI (xStar tm fJ g))), (0, .ref h), (1, .int g)]) hx hb dX0_sourcesThatGo_30 rfl hl (by decide) rfl (fun ls hl => ?_)
    refine lv_iconst (v := 0) hx hb dX0_sourcesThatGo_31 (by decide) ?_
    refine lv_istore (lv' := [(4, .int ((0 : Int32))), (3, .int ((0 : Int32))), (2, .int (bI (xStar tm fJ g))), (0, .ref h), (1, .int g)]) hx hb dX0_sourcesThatGo_32 hl (by decide) rfl (fun ls hl => ?_)
    refine lp_X0_sourcesThatGo_34 l dC dI h a1 a2 a3 a4 a5 cA me tm fN fM fJ fT fC g hg S hK hP ⟨Nat.le_of_ble_eq_true rfl, Nat.le_of_ble_eq_true rfl⟩ (fun ls hl => ?_) 16 0 rfl ls (lv_sub hl [3, 4, 2, 1, 0] rfl)
    refine lv_iload_n hx hb dX0_sourcesThatGo_86 rfl (lv_at hl 3 rfl) ?_
    have er : bitsI (xGoq tm fJ fT fC g) 16 = xGo me tm fN fM fJ fT fC g := by simp [xGo, b10]
    exact W.iret (v := bitsI (xGoq tm fJ fT fC g) 16) hx hb hr (fun t ht hW => ⟨congrArg (fun z => Outcome.returned (some (Value.int z))) er, ht⟩) (fun q h => absurd h List.not_mem_nil) dX0_sourcesThatGo_87
  · have b10 := bI_nz c10
    refine lv_aload_n hx hb dX0_sourcesThatGo_13 rfl (lv_at hl 0 rfl) ?_
    refine rd_V (As := []) (rest := []) (ci := 0) (qc := (RX0, TX0, 7)) S (c_X0_isFirst l dC dI h a1 a2 a3 a4 a5 cA me tm fN fM fJ fT fC) gX0_sourcesThatGo_X0_isFirst rfl ⟨rfl, rfl⟩ hd_X0_isFirst ⟨Nat.le_of_ble_eq_true rfl, Nat.le_of_ble_eq_true rfl⟩ hK hP rfl rfl rfl hl.1 rfl (Nat.le_of_ble_eq_true rfl) dX0_sourcesThatGo_14 ⟨Nat.le_of_ble_eq_true rfl, Nat.le_of_ble_eq_true rfl⟩ ?_
    refine lv_if_eq (tgt := 23) hx hb dX0_sourcesThatGo_17 (by decide) (fun c17 => ?_) (fun c17 => ?_)
    · have b17 := bI_z c17
      refine lv_aload_n hx hb dX0_sourcesThatGo_23 rfl (lv_at hl 0 rfl) ?_
      refine lv_iload_n hx hb dX0_sourcesThatGo_24 rfl (lv_at hl 1 rfl) ?_
      refine rd_V (As := [.int g]) (rest := []) (ci := 0) (qc := (RX0, TX0, 7)) S (c_X0_isJoinedForStar l dC dI h a1 a2 a3 a4 a5 cA me tm fN fM fJ fT fC g hg) gX0_sourcesThatGo_X0_isJoinedForStar rfl ⟨rfl, rfl⟩ hd_X0_isJoinedForStar ⟨Nat.le_of_ble_eq_true rfl, Nat.le_of_ble_eq_true rfl⟩ hK hP rfl rfl rfl hl.1 rfl (Nat.le_of_ble_eq_true rfl) dX0_sourcesThatGo_25 ⟨Nat.le_of_ble_eq_true rfl, Nat.le_of_ble_eq_true rfl⟩ ?_
      refine lv_istore_n (lv' := [(2, .int (bI (xStar tm fJ g))), (0, .ref h), (1, .int g)]) hx hb dX0_sourcesThatGo_28 rfl hl (by decide) rfl (fun ls hl => ?_)
      refine lv_iconst (v := 0) hx hb dX0_sourcesThatGo_29 (by decide) ?_
      refine lv_istore_n (lv' := [(3, .int ((0 : Int32))), (2, .int (bI (xStar tm fJ g))), (0, .ref h), (1, .int g)]) hx hb dX0_sourcesThatGo_30 rfl hl (by decide) rfl (fun ls hl => ?_)
      refine lv_iconst (v := 0) hx hb dX0_sourcesThatGo_31 (by decide) ?_
      refine lv_istore (lv' := [(4, .int ((0 : Int32))), (3, .int ((0 : Int32))), (2, .int (bI (xStar tm fJ g))), (0, .ref h), (1, .int g)]) hx hb dX0_sourcesThatGo_32 hl (by decide) rfl (fun ls hl => ?_)
      refine lp_X0_sourcesThatGo_34 l dC dI h a1 a2 a3 a4 a5 cA me tm fN fM fJ fT fC g hg S hK hP ⟨Nat.le_of_ble_eq_true rfl, Nat.le_of_ble_eq_true rfl⟩ (fun ls hl => ?_) 16 0 rfl ls (lv_sub hl [3, 4, 2, 1, 0] rfl)
      refine lv_iload_n hx hb dX0_sourcesThatGo_86 rfl (lv_at hl 3 rfl) ?_
      have er : bitsI (xGoq tm fJ fT fC g) 16 = xGo me tm fN fM fJ fT fC g := by simp [xGo, b10, b17]
      exact W.iret (v := bitsI (xGoq tm fJ fT fC g) 16) hx hb hr (fun t ht hW => ⟨congrArg (fun z => Outcome.returned (some (Value.int z))) er, ht⟩) (fun q h => absurd h List.not_mem_nil) dX0_sourcesThatGo_87
    · have b17 := bI_nz c17
      refine lv_ldc (v := 65535) hx hb hown (hts (.constant RX0 56 (65535)) (by decide +kernel)) dX0_sourcesThatGo_20 ?_
      have er : (65535 : Int32) = xGo me tm fN fM fJ fT fC g := by simp [xGo, b10, b17]
      exact W.iret (v := (65535 : Int32)) hx hb hr (fun t ht hW => ⟨congrArg (fun z => Outcome.returned (some (Value.int z))) er, ht⟩) (fun q h => absurd h List.not_mem_nil) dX0_sourcesThatGo_22
theorem hd_X0_sourcesThatGo : yX0_sourcesThatGo.cls = RX0 ∧ yX0_sourcesThatGo.cls ≠ "java/lang/invoke/MethodHandle" ∧ yX0_sourcesThatGo.cls ≠ "java/lang/invoke/VarHandle" ∧ (parseMethodDescriptor yX0_sourcesThatGo.desc).map (fun d => d.parameters.length) = some 1 := by decide +kernel

theorem iwsX0_groupsThatGo : ∀ w ∈ u_ws RX0 TX0 7, w ∈ wsX0_groupsThatGo := fun _ h => List.mem_cons_of_mem _ (List.mem_append_right _ h)
set_option maxHeartbeats 4000000 in
set_option maxRecDepth 100000 in
theorem lp_X0_groupsThatGo_4 {p : Program} {e : Env} {s : State} {m : MethodId} {args : Array Value} {below : List Frame} {meth : Method} {c : Code} {cells slots : Nat} {Q : State → Prop} {H : Heap} {locs : List Loc} (l : Launch) (dC : Nat → ClassId) (dI : Nat → Nat → Nat) (h a1 a2 a3 a4 a5 : Nat) (cA : ClassId) (me tm : Int32) (fN fM fJ fT fC : Nat → Int32) (S : CallFix p m c cX0_groupsThatGo 3 s args wsX0_groupsThatGo RX0) (hK : va_K (dC, dI) vwCl [(cA, .int)] s) (hP : va_P (dC, dI) vwCl (wX h a1 a2 a3 a4 a5 cA me tm fN fM fJ fT fC) H) (hcs : cells + 0 ≤ 0 ∧ slots + 0 ≤ 0) (k : ∀ (ls : Array Slot), lv_has ls 3 [(0, .ref h), (1, .int (bitsI (xGrq me tm fN fM fJ fT fC) 8)), (2, .int (nI 8))] → W p l e ({ frames := 4, cells := 0, slots := 0, locals := 87 }) s m args below meth c H locs cells slots Q (F0 m 30 ls [])) : ∀ (n i : Nat), i + n = 8 → ∀ (ls : Array Slot), lv_has ls 3 [(0, .ref h), (1, .int (bitsI (xGrq me tm fN fM fJ fT fC) i)), (2, .int (nI i))] → W p l e ({ frames := 4, cells := 0, slots := 0, locals := 87 }) s m args below meth c H locs cells slots Q (F0 m 4 ls []) := by
  obtain ⟨hx, hb, hml, hown, hts⟩ := id S
  intro n
  induction n with
  | zero =>
    intro i hi ls hl
    obtain rfl : i = 8 := by omega
    refine lv_iload_n hx hb dX0_groupsThatGo_4 rfl (lv_at hl 2 rfl) ?_
    refine lv_bipush (v := 8) hx hb dX0_groupsThatGo_5 (by decide) ?_
    refine lv_icmp_ge (tgt := 30) hx hb dX0_groupsThatGo_7 (by decide) (fun c7 => ?_) (fun c7 => ?_)
    · exact k ls (lv_sub hl [0, 1, 2] rfl)
    · exact absurd c7 (by decide)
  | succ n ih =>
    intro i hi ls hl
    have hlt : i < 8 := by omega
    have hcl : (nI i).toNatClampNeg = i := nI_clamp (by omega)
    refine lv_iload_n hx hb dX0_groupsThatGo_4 rfl (lv_at hl 2 rfl) ?_
    refine lv_bipush (v := 8) hx hb dX0_groupsThatGo_5 (by decide) ?_
    refine lv_icmp_ge (tgt := 30) hx hb dX0_groupsThatGo_7 (by decide) (fun c7 => ?_) (fun c7 => ?_)
    · exact absurd c7 (nI_ge hlt (by decide))
    · refine lv_aload_n hx hb dX0_groupsThatGo_10 rfl (lv_at hl 0 rfl) ?_
      refine lv_iload_n hx hb dX0_groupsThatGo_11 rfl (lv_at hl 2 rfl) ?_
      refine rd_V (As := [.int (nI i)]) (rest := []) (ci := 0) (qc := (RX0, TX0, 7)) S (c_X0_sourcesThatGo l dC dI h a1 a2 a3 a4 a5 cA me tm fN fM fJ fT fC (nI i) (xG_nI hlt)) gX0_groupsThatGo_X0_sourcesThatGo rfl ⟨rfl, rfl⟩ hd_X0_sourcesThatGo ⟨Nat.le_of_ble_eq_true rfl, Nat.le_of_ble_eq_true rfl⟩ hK hP rfl rfl rfl hl.1 rfl (Nat.le_of_ble_eq_true rfl) dX0_groupsThatGo_12 hcs ?_
      refine lv_if_eq (tgt := 24) hx hb dX0_groupsThatGo_15 (by decide) (fun c15 => ?_) (fun c15 => ?_)
      · refine lv_iinc (v := nI (i + 1)) (lv' := [(2, .int (nI (i + 1))), (0, .ref h), (1, .int (bitsI (xGrq me tm fN fM fJ fT fC) i))]) hx hb dX0_groupsThatGo_24 hl (k := 2) rfl (nI_1 _) (by decide) rfl (fun ls hl => ?_)
        refine lv_goto (tgt := 4) hx hb dX0_groupsThatGo_27 (by decide) ?_
        exact ih (i + 1) (by omega) ls (by rw [bitsI_f (q := xGrq me tm fN fM fJ fT fC) (k := i) (by simp [xGrq, c15])]; exact lv_sub hl [1, 2, 0] rfl)
      · refine lv_iload_n hx hb dX0_groupsThatGo_18 rfl (lv_at hl 1 rfl) ?_
        refine lv_iconst (v := 1) hx hb dX0_groupsThatGo_19 (by decide) ?_
        refine lv_iload_n hx hb dX0_groupsThatGo_20 rfl (lv_at hl 2 rfl) ?_
        refine lv_ishl hx hb dX0_groupsThatGo_21 ?_
        refine lv_ior hx hb dX0_groupsThatGo_22 ?_
        refine lv_istore_n (lv' := [(1, .int ((bitsI (xGrq me tm fN fM fJ fT fC) i) ||| (((1 : Int32)) <<< ((nI i) &&& 31)))), (0, .ref h), (2, .int (nI i))]) hx hb dX0_groupsThatGo_23 rfl hl (by decide) rfl (fun ls hl => ?_)
        refine lv_iinc (v := nI (i + 1)) (lv' := [(2, .int (nI (i + 1))), (1, .int ((bitsI (xGrq me tm fN fM fJ fT fC) i) ||| (((1 : Int32)) <<< ((nI i) &&& 31)))), (0, .ref h)]) hx hb dX0_groupsThatGo_24 hl (k := 2) rfl (nI_1 _) (by decide) rfl (fun ls hl => ?_)
        refine lv_goto (tgt := 4) hx hb dX0_groupsThatGo_27 (by decide) ?_
        exact ih (i + 1) (by omega) ls (by rw [bitsI_t (q := xGrq me tm fN fM fJ fT fC) (k := i) (by simp [xGrq, c15])]; exact lv_sub hl [2, 1, 0] rfl)
set_option maxHeartbeats 4000000 in
set_option maxRecDepth 100000 in
theorem c_X0_groupsThatGo (l : Launch) (dC : Nat → ClassId) (dI : Nat → Nat → Nat) (h a1 a2 a3 a4 a5 : Nat) (cA : ClassId) (me tm : Int32) (fN fM fJ fT fC : Nat → Int32) : Met l yX0_groupsThatGo wsX0_groupsThatGo ({ frames := 4, cells := 0, slots := 0, locals := 87 }) (PR [.ref h] dC dI cA (wX h a1 a2 a3 a4 a5 cA me tm fN fM fJ fT fC)) (QcRead (xGr me tm fN fM fJ fT fC)) 0 0 (fun _ => False) := by
  refine Met.ofW (cc := cX0_groupsThatGo) (maxL := 3) (ret := some .int) (by decide) rfl ?_
  intro p e s m args below meth c s₁ B hml hv
  obtain ⟨rfl, hP, hK⟩ := hv
  have hx := B.exec
  have hb := B.bytes
  have hr := B.returns
  have hts := atoms_spec (ws := wsX0_groupsThatGo) B.pre
  have hown : s.vm.findClass RX0 = some m.cls := findClass_of_methodNamed B.named
  have hlocks := B.notSynchronized
  have S : CallFix p m c cX0_groupsThatGo 3 s ([.ref h] : List Value).toArray wsX0_groupsThatGo RX0 := ⟨hx, hb, hml, hown, hts⟩
  have hl := lv_entry ([.ref h]) (n := 3) (Nat.le_of_ble_eq_true rfl)
  rw [lg_entry_eq]
  generalize (lg_sl ([.ref h]) ++ List.replicate (3 - (lg_sl ([.ref h])).length) Slot.unset).toArray = ls at hl ⊢
  have hl : lv_has ls 3 [(0, .ref h)] := hl
  refine lv_iconst (v := 0) hx hb dX0_groupsThatGo_0 (by decide) ?_
  refine lv_istore_n (lv' := [(1, .int ((0 : Int32))), (0, .ref h)]) hx hb dX0_groupsThatGo_1 rfl hl (by decide) rfl (fun ls hl => ?_)
  refine lv_iconst (v := 0) hx hb dX0_groupsThatGo_2 (by decide) ?_
  refine lv_istore_n (lv' := [(2, .int ((0 : Int32))), (1, .int ((0 : Int32))), (0, .ref h)]) hx hb dX0_groupsThatGo_3 rfl hl (by decide) rfl (fun ls hl => ?_)
  refine lp_X0_groupsThatGo_4 l dC dI h a1 a2 a3 a4 a5 cA me tm fN fM fJ fT fC S hK hP ⟨Nat.le_of_ble_eq_true rfl, Nat.le_of_ble_eq_true rfl⟩ (fun ls hl => ?_) 8 0 rfl ls (lv_sub hl [2, 1, 0] rfl)
  refine lv_iload_n hx hb dX0_groupsThatGo_30 rfl (lv_at hl 1 rfl) ?_
  exact W.iret (v := bitsI (xGrq me tm fN fM fJ fT fC) 8) hx hb hr (fun t ht hW => ⟨rfl, ht⟩) (fun q h => absurd h List.not_mem_nil) dX0_groupsThatGo_31
theorem hd_X0_groupsThatGo : yX0_groupsThatGo.cls = RX0 ∧ yX0_groupsThatGo.cls ≠ "java/lang/invoke/MethodHandle" ∧ yX0_groupsThatGo.cls ≠ "java/lang/invoke/VarHandle" ∧ (parseMethodDescriptor yX0_groupsThatGo.desc).map (fun d => d.parameters.length) = some 0 := by decide +kernel

theorem iwsX0_countJoined : ∀ w ∈ u_ws RX0 TX0 7, w ∈ wsX0_countJoined := fun _ h => List.mem_cons_of_mem _ (List.mem_append_right _ h)
set_option maxHeartbeats 4000000 in
set_option maxRecDepth 100000 in
theorem lp_X0_countJoined_4 {p : Program} {e : Env} {s : State} {m : MethodId} {args : Array Value} {below : List Frame} {meth : Method} {c : Code} {cells slots : Nat} {Q : State → Prop} {H : Heap} {locs : List Loc} (l : Launch) (dC : Nat → ClassId) (dI : Nat → Nat → Nat) (h a1 a2 a3 a4 a5 : Nat) (cA : ClassId) (me tm : Int32) (fN fM fJ fT fC : Nat → Int32) (S : CallFix p m c cX0_countJoined 3 s args wsX0_countJoined RX0) (hK : va_K (dC, dI) vwCl [(cA, .int)] s) (hP : va_P (dC, dI) vwCl (wX h a1 a2 a3 a4 a5 cA me tm fN fM fJ fT fC) H) (hcs : cells + 0 ≤ 0 ∧ slots + 0 ≤ 0) (k : ∀ (ls : Array Slot), lv_has ls 3 [(0, .ref h), (1, .int (cntI (xNbq tm fJ) 136)), (2, .int (nI 136))] → W p l e ({ frames := 1, cells := 0, slots := 0, locals := 21 }) s m args below meth c H locs cells slots Q (F0 m 33 ls [])) : ∀ (n i : Nat), i + n = 136 → ∀ (ls : Array Slot), lv_has ls 3 [(0, .ref h), (1, .int (cntI (xNbq tm fJ) i)), (2, .int (nI i))] → W p l e ({ frames := 1, cells := 0, slots := 0, locals := 21 }) s m args below meth c H locs cells slots Q (F0 m 4 ls []) := by
  obtain ⟨hx, hb, hml, hown, hts⟩ := id S
  intro n
  induction n with
  | zero =>
    intro i hi ls hl
    obtain rfl : i = 136 := by omega
    refine lv_iload_n hx hb dX0_countJoined_4 rfl (lv_at hl 2 rfl) ?_
    refine lv_sipush (v := 136) hx hb dX0_countJoined_5 (by decide) ?_
    refine lv_icmp_ge (tgt := 33) hx hb dX0_countJoined_8 (by decide) (fun c8 => ?_) (fun c8 => ?_)
    · exact k ls (lv_sub hl [0, 1, 2] rfl)
    · exact absurd c8 (by decide)
  | succ n ih =>
    intro i hi ls hl
    have hlt : i < 136 := by omega
    have hcl : (nI i).toNatClampNeg = i := nI_clamp (by omega)
    refine lv_iload_n hx hb dX0_countJoined_4 rfl (lv_at hl 2 rfl) ?_
    refine lv_sipush (v := 136) hx hb dX0_countJoined_5 (by decide) ?_
    refine lv_icmp_ge (tgt := 33) hx hb dX0_countJoined_8 (by decide) (fun c8 => ?_) (fun c8 => ?_)
    · exact absurd c8 (nI_ge hlt (by decide))
    · refine lv_aload_n hx hb dX0_countJoined_11 rfl (lv_at hl 0 rfl) ?_
      refine lv_aload_n hx hb dX0_countJoined_12 rfl (lv_at hl 0 rfl) ?_
      refine va_get (D := (dC, dI)) (ci := 0) (v := .ref a3) (C := RX0) (T := TX0) (N := 7) hx hb hts iwsX0_countJoined hown hK hP 0 rfl rfl 4 (by decide) (hts (.fieldLink RX0 16 "BranchTimes" "joinedTill" "[I") (by decide +kernel)) (fun _ h9 => h9) rfl dX0_countJoined_13 ?_
      refine lv_iload_n hx hb dX0_countJoined_16 rfl (lv_at hl 2 rfl) ?_
      refine va_iald (D := (dC, dI)) hx hb hK hP 3 0 rfl rfl (vp_in_nI hlt (by decide)) dX0_countJoined_17 ?_
      refine lv_top (x' := fJ i) (congrArg fJ hcl) ?_
      refine rd_V (As := [.int (fJ i)]) (rest := []) (ci := 0) (qc := (RX0, TX0, 7)) S (c_X0_stands l dC dI h a1 a2 a3 a4 a5 cA me tm fN fM fJ fT fC (fJ i)) gX0_countJoined_X0_stands rfl ⟨rfl, rfl⟩ hd_X0_stands ⟨Nat.le_of_ble_eq_true rfl, Nat.le_of_ble_eq_true rfl⟩ hK hP rfl rfl rfl hl.1 rfl (Nat.le_of_ble_eq_true rfl) dX0_countJoined_18 hcs ?_
      refine lv_if_eq (tgt := 27) hx hb dX0_countJoined_21 (by decide) (fun c21 => ?_) (fun c21 => ?_)
      · have b21 := bI_z c21
        refine lv_iinc (v := nI (i + 1)) (lv' := [(2, .int (nI (i + 1))), (0, .ref h), (1, .int (cntI (xNbq tm fJ) i))]) hx hb dX0_countJoined_27 hl (k := 2) rfl (nI_1 _) (by decide) rfl (fun ls hl => ?_)
        refine lv_goto (tgt := 4) hx hb dX0_countJoined_30 (by decide) ?_
        exact ih (i + 1) (by omega) ls (by rw [cntI_f (q := xNbq tm fJ) (k := i) b21]; exact lv_sub hl [1, 2, 0] rfl)
      · have b21 := bI_nz c21
        refine lv_iinc (v := cntI (xNbq tm fJ) i + 1) (lv' := [(1, .int (cntI (xNbq tm fJ) i + 1)), (0, .ref h), (2, .int (nI i))]) hx hb dX0_countJoined_24 hl (k := 1) rfl (rfl) (by decide) rfl (fun ls hl => ?_)
        refine lv_iinc (v := nI (i + 1)) (lv' := [(2, .int (nI (i + 1))), (1, .int (cntI (xNbq tm fJ) i + 1)), (0, .ref h)]) hx hb dX0_countJoined_27 hl (k := 2) rfl (nI_1 _) (by decide) rfl (fun ls hl => ?_)
        refine lv_goto (tgt := 4) hx hb dX0_countJoined_30 (by decide) ?_
        exact ih (i + 1) (by omega) ls (by rw [cntI_t (q := xNbq tm fJ) (k := i) b21]; exact lv_sub hl [2, 1, 0] rfl)
set_option maxHeartbeats 4000000 in
set_option maxRecDepth 100000 in
theorem c_X0_countJoined (l : Launch) (dC : Nat → ClassId) (dI : Nat → Nat → Nat) (h a1 a2 a3 a4 a5 : Nat) (cA : ClassId) (me tm : Int32) (fN fM fJ fT fC : Nat → Int32) : Met l yX0_countJoined wsX0_countJoined ({ frames := 1, cells := 0, slots := 0, locals := 21 }) (PR [.ref h] dC dI cA (wX h a1 a2 a3 a4 a5 cA me tm fN fM fJ fT fC)) (QcRead (xCnt tm fJ)) 0 0 (fun _ => False) := by
  refine Met.ofW (cc := cX0_countJoined) (maxL := 3) (ret := some .int) (by decide) rfl ?_
  intro p e s m args below meth c s₁ B hml hv
  obtain ⟨rfl, hP, hK⟩ := hv
  have hx := B.exec
  have hb := B.bytes
  have hr := B.returns
  have hts := atoms_spec (ws := wsX0_countJoined) B.pre
  have hown : s.vm.findClass RX0 = some m.cls := findClass_of_methodNamed B.named
  have hlocks := B.notSynchronized
  have S : CallFix p m c cX0_countJoined 3 s ([.ref h] : List Value).toArray wsX0_countJoined RX0 := ⟨hx, hb, hml, hown, hts⟩
  have hl := lv_entry ([.ref h]) (n := 3) (Nat.le_of_ble_eq_true rfl)
  rw [lg_entry_eq]
  generalize (lg_sl ([.ref h]) ++ List.replicate (3 - (lg_sl ([.ref h])).length) Slot.unset).toArray = ls at hl ⊢
  have hl : lv_has ls 3 [(0, .ref h)] := hl
  refine lv_iconst (v := 0) hx hb dX0_countJoined_0 (by decide) ?_
  refine lv_istore_n (lv' := [(1, .int ((0 : Int32))), (0, .ref h)]) hx hb dX0_countJoined_1 rfl hl (by decide) rfl (fun ls hl => ?_)
  refine lv_iconst (v := 0) hx hb dX0_countJoined_2 (by decide) ?_
  refine lv_istore_n (lv' := [(2, .int ((0 : Int32))), (1, .int ((0 : Int32))), (0, .ref h)]) hx hb dX0_countJoined_3 rfl hl (by decide) rfl (fun ls hl => ?_)
  refine lp_X0_countJoined_4 l dC dI h a1 a2 a3 a4 a5 cA me tm fN fM fJ fT fC S hK hP ⟨Nat.le_of_ble_eq_true rfl, Nat.le_of_ble_eq_true rfl⟩ (fun ls hl => ?_) 136 0 rfl ls (lv_sub hl [2, 1, 0] rfl)
  refine lv_iload_n hx hb dX0_countJoined_33 rfl (lv_at hl 1 rfl) ?_
  exact W.iret (v := cntI (xNbq tm fJ) 136) hx hb hr (fun t ht hW => ⟨rfl, ht⟩) (fun q h => absurd h List.not_mem_nil) dX0_countJoined_34
theorem hd_X0_countJoined : yX0_countJoined.cls = RX0 ∧ yX0_countJoined.cls ≠ "java/lang/invoke/MethodHandle" ∧ yX0_countJoined.cls ≠ "java/lang/invoke/VarHandle" ∧ (parseMethodDescriptor yX0_countJoined.desc).map (fun d => d.parameters.length) = some 0 := by decide +kernel

theorem iwsX0_joined : ∀ w ∈ u_ws RX0 TX0 7, w ∈ wsX0_joined := fun _ h => List.mem_cons_of_mem _ (List.mem_append_right _ h)
set_option maxHeartbeats 4000000 in
set_option maxRecDepth 100000 in
theorem c_X0_joined (l : Launch) (dC : Nat → ClassId) (dI : Nat → Nat → Nat) (h a1 a2 a3 a4 a5 : Nat) (cA : ClassId) (me tm : Int32) (fN fM fJ fT fC : Nat → Int32) (g q : Int32) : Met l yX0_joined wsX0_joined ({ frames := 2, cells := 0, slots := 0, locals := 42 }) (PR [.ref h, .int g, .int q] dC dI cA (wX h a1 a2 a3 a4 a5 cA me tm fN fM fJ fT fC)) (QcRead (xJd tm fJ g q)) 0 0 (fun _ => False) := by
  refine Met.ofW (cc := cX0_joined) (maxL := 3) (ret := some .int) (by decide) rfl ?_
  intro p e s m args below meth c s₁ B hml hv
  obtain ⟨rfl, hP, hK⟩ := hv
  have hx := B.exec
  have hb := B.bytes
  have hr := B.returns
  have hts := atoms_spec (ws := wsX0_joined) B.pre
  have hown : s.vm.findClass RX0 = some m.cls := findClass_of_methodNamed B.named
  have hlocks := B.notSynchronized
  have S : CallFix p m c cX0_joined 3 s ([.ref h, .int g, .int q] : List Value).toArray wsX0_joined RX0 := ⟨hx, hb, hml, hown, hts⟩
  have hl := lv_entry ([.ref h, .int g, .int q]) (n := 3) (Nat.le_of_ble_eq_true rfl)
  rw [lg_entry_eq]
  generalize (lg_sl ([.ref h, .int g, .int q]) ++ List.replicate (3 - (lg_sl ([.ref h, .int g, .int q])).length) Slot.unset).toArray = ls at hl ⊢
  have hl : lv_has ls 3 [(0, .ref h), (1, .int g), (2, .int q)] := hl
  refine lv_iload_n hx hb dX0_joined_0 rfl (lv_at hl 1 rfl) ?_
  refine rd_S (As := [.int g]) (rest := []) S (c_X0_isGroup l g) gX0_joined_X0_isGroup rfl ⟨rfl, rfl⟩ hd_X0_isGroup ⟨Nat.le_of_ble_eq_true rfl, Nat.le_of_ble_eq_true rfl⟩ rfl hl.1 rfl (Nat.le_of_ble_eq_true rfl) dX0_joined_1 ⟨Nat.le_of_ble_eq_true rfl, Nat.le_of_ble_eq_true rfl⟩ ?_
  refine lv_if_eq (tgt := 14) hx hb dX0_joined_4 (by decide) (fun c4 => ?_) (fun c4 => ?_)
  · have b4 := bI_z c4
    refine lv_iconst (v := -1) hx hb dX0_joined_14 (by decide) ?_
    have er : (-1 : Int32) = xJd tm fJ g q := by simp [xJd, xJoB, b4]
    exact W.iret (v := (-1 : Int32)) hx hb hr (fun t ht hW => ⟨congrArg (fun z => Outcome.returned (some (Value.int z))) er, ht⟩) (fun q h => absurd h List.not_mem_nil) dX0_joined_15
  · have b4 := bI_nz c4
    refine lv_iload_n hx hb dX0_joined_7 rfl (lv_at hl 2 rfl) ?_
    refine rd_S (As := [.int q]) (rest := []) S (c_X0_isBranch l q) gX0_joined_X0_isBranch rfl ⟨rfl, rfl⟩ hd_X0_isBranch ⟨Nat.le_of_ble_eq_true rfl, Nat.le_of_ble_eq_true rfl⟩ rfl hl.1 rfl (Nat.le_of_ble_eq_true rfl) dX0_joined_8 ⟨Nat.le_of_ble_eq_true rfl, Nat.le_of_ble_eq_true rfl⟩ ?_
    refine lv_if_ne (tgt := 16) hx hb dX0_joined_11 (by decide) (fun c11 => ?_) (fun c11 => ?_)
    · have b11 := bI_nz c11
      refine lv_aload_n hx hb dX0_joined_16 rfl (lv_at hl 0 rfl) ?_
      refine lv_aload_n hx hb dX0_joined_17 rfl (lv_at hl 0 rfl) ?_
      refine va_get (D := (dC, dI)) (ci := 0) (v := .ref a3) (C := RX0) (T := TX0) (N := 7) hx hb hts iwsX0_joined hown hK hP 0 rfl rfl 4 (by decide) (hts (.fieldLink RX0 16 "BranchTimes" "joinedTill" "[I") (by decide +kernel)) (fun _ h9 => h9) rfl dX0_joined_18 ?_
      refine lv_iload_n hx hb dX0_joined_21 rfl (lv_at hl 1 rfl) ?_
      refine lv_iload_n hx hb dX0_joined_22 rfl (lv_at hl 2 rfl) ?_
      refine rd_S (As := [.int g, .int q]) (rest := [.ref a3, .ref h]) S (c_X0_branchPlace l g q) gX0_joined_X0_branchPlace rfl ⟨rfl, rfl⟩ hd_X0_branchPlace ⟨Nat.le_of_ble_eq_true rfl, Nat.le_of_ble_eq_true rfl⟩ rfl hl.1 rfl (Nat.le_of_ble_eq_true rfl) dX0_joined_23 ⟨Nat.le_of_ble_eq_true rfl, Nat.le_of_ble_eq_true rfl⟩ ?_
      refine va_iald (D := (dC, dI)) hx hb hK hP 3 0 rfl rfl (Pl_in b4 b11) dX0_joined_26 ?_
      refine rd_V (As := [.int (fJ (xPl g q).toNatClampNeg)]) (rest := []) (ci := 0) (qc := (RX0, TX0, 7)) S (c_X0_tillOrZero l dC dI h a1 a2 a3 a4 a5 cA me tm fN fM fJ fT fC (fJ (xPl g q).toNatClampNeg)) gX0_joined_X0_tillOrZero rfl ⟨rfl, rfl⟩ hd_X0_tillOrZero ⟨Nat.le_of_ble_eq_true rfl, Nat.le_of_ble_eq_true rfl⟩ hK hP rfl rfl rfl hl.1 rfl (Nat.le_of_ble_eq_true rfl) dX0_joined_27 ⟨Nat.le_of_ble_eq_true rfl, Nat.le_of_ble_eq_true rfl⟩ ?_
      have er : xTz tm (fJ (xPl g q).toNatClampNeg) = xJd tm fJ g q := by simp [xJd, xJoB, b4, b11]
      exact W.iret (v := xTz tm (fJ (xPl g q).toNatClampNeg)) hx hb hr (fun t ht hW => ⟨congrArg (fun z => Outcome.returned (some (Value.int z))) er, ht⟩) (fun q h => absurd h List.not_mem_nil) dX0_joined_30
    · have b11 := bI_z c11
      refine lv_iconst (v := -1) hx hb dX0_joined_14 (by decide) ?_
      have er : (-1 : Int32) = xJd tm fJ g q := by simp [xJd, xJoB, b4, b11]
      exact W.iret (v := (-1 : Int32)) hx hb hr (fun t ht hW => ⟨congrArg (fun z => Outcome.returned (some (Value.int z))) er, ht⟩) (fun q h => absurd h List.not_mem_nil) dX0_joined_15
theorem hd_X0_joined : yX0_joined.cls = RX0 ∧ yX0_joined.cls ≠ "java/lang/invoke/MethodHandle" ∧ yX0_joined.cls ≠ "java/lang/invoke/VarHandle" ∧ (parseMethodDescriptor yX0_joined.desc).map (fun d => d.parameters.length) = some 2 := by decide +kernel

theorem iwsX0_cut : ∀ w ∈ u_ws RX0 TX0 7, w ∈ wsX0_cut := fun _ h => List.mem_cons_of_mem _ (List.mem_append_right _ h)
set_option maxHeartbeats 4000000 in
set_option maxRecDepth 100000 in
theorem c_X0_cut (l : Launch) (dC : Nat → ClassId) (dI : Nat → Nat → Nat) (h a1 a2 a3 a4 a5 : Nat) (cA : ClassId) (me tm : Int32) (fN fM fJ fT fC : Nat → Int32) (g q : Int32) : Met l yX0_cut wsX0_cut ({ frames := 2, cells := 0, slots := 0, locals := 42 }) (PR [.ref h, .int g, .int q] dC dI cA (wX h a1 a2 a3 a4 a5 cA me tm fN fM fJ fT fC)) (QcRead (xCu tm fJ fT fC g q)) 0 0 (fun _ => False) := by
  refine Met.ofW (cc := cX0_cut) (maxL := 3) (ret := some .int) (by decide) rfl ?_
  intro p e s m args below meth c s₁ B hml hv
  obtain ⟨rfl, hP, hK⟩ := hv
  have hx := B.exec
  have hb := B.bytes
  have hr := B.returns
  have hts := atoms_spec (ws := wsX0_cut) B.pre
  have hown : s.vm.findClass RX0 = some m.cls := findClass_of_methodNamed B.named
  have hlocks := B.notSynchronized
  have S : CallFix p m c cX0_cut 3 s ([.ref h, .int g, .int q] : List Value).toArray wsX0_cut RX0 := ⟨hx, hb, hml, hown, hts⟩
  have hl := lv_entry ([.ref h, .int g, .int q]) (n := 3) (Nat.le_of_ble_eq_true rfl)
  rw [lg_entry_eq]
  generalize (lg_sl ([.ref h, .int g, .int q]) ++ List.replicate (3 - (lg_sl ([.ref h, .int g, .int q])).length) Slot.unset).toArray = ls at hl ⊢
  have hl : lv_has ls 3 [(0, .ref h), (1, .int g), (2, .int q)] := hl
  refine lv_iload_n hx hb dX0_cut_0 rfl (lv_at hl 1 rfl) ?_
  refine rd_S (As := [.int g]) (rest := []) S (c_X0_isGroup l g) gX0_cut_X0_isGroup rfl ⟨rfl, rfl⟩ hd_X0_isGroup ⟨Nat.le_of_ble_eq_true rfl, Nat.le_of_ble_eq_true rfl⟩ rfl hl.1 rfl (Nat.le_of_ble_eq_true rfl) dX0_cut_1 ⟨Nat.le_of_ble_eq_true rfl, Nat.le_of_ble_eq_true rfl⟩ ?_
  refine lv_if_eq (tgt := 14) hx hb dX0_cut_4 (by decide) (fun c4 => ?_) (fun c4 => ?_)
  · have b4 := bI_z c4
    refine lv_iconst (v := -1) hx hb dX0_cut_14 (by decide) ?_
    have er : (-1 : Int32) = xCu tm fJ fT fC g q := by simp [xCu, b4]
    exact W.iret (v := (-1 : Int32)) hx hb hr (fun t ht hW => ⟨congrArg (fun z => Outcome.returned (some (Value.int z))) er, ht⟩) (fun q h => absurd h List.not_mem_nil) dX0_cut_15
  · have b4 := bI_nz c4
    refine lv_iload_n hx hb dX0_cut_7 rfl (lv_at hl 2 rfl) ?_
    refine rd_S (As := [.int q]) (rest := []) S (c_X0_isSource l q) gX0_cut_X0_isSource rfl ⟨rfl, rfl⟩ hd_X0_isSource ⟨Nat.le_of_ble_eq_true rfl, Nat.le_of_ble_eq_true rfl⟩ rfl hl.1 rfl (Nat.le_of_ble_eq_true rfl) dX0_cut_8 ⟨Nat.le_of_ble_eq_true rfl, Nat.le_of_ble_eq_true rfl⟩ ?_
    refine lv_if_ne (tgt := 16) hx hb dX0_cut_11 (by decide) (fun c11 => ?_) (fun c11 => ?_)
    · have b11 := bI_nz c11
      refine lv_aload_n hx hb dX0_cut_16 rfl (lv_at hl 0 rfl) ?_
      refine lv_iload_n hx hb dX0_cut_17 rfl (lv_at hl 1 rfl) ?_
      refine rd_V (As := [.int g]) (rest := []) (ci := 0) (qc := (RX0, TX0, 7)) S (c_X0_isJoinedForStar l dC dI h a1 a2 a3 a4 a5 cA me tm fN fM fJ fT fC g b4) gX0_cut_X0_isJoinedForStar rfl ⟨rfl, rfl⟩ hd_X0_isJoinedForStar ⟨Nat.le_of_ble_eq_true rfl, Nat.le_of_ble_eq_true rfl⟩ hK hP rfl rfl rfl hl.1 rfl (Nat.le_of_ble_eq_true rfl) dX0_cut_18 ⟨Nat.le_of_ble_eq_true rfl, Nat.le_of_ble_eq_true rfl⟩ ?_
      refine lv_if_eq (tgt := 37) hx hb dX0_cut_21 (by decide) (fun c21 => ?_) (fun c21 => ?_)
      · have b21 := bI_z c21
        refine lv_iconst (v := 0) hx hb dX0_cut_37 (by decide) ?_
        have er : (0 : Int32) = xCu tm fJ fT fC g q := by simp [xCu, b4, b11, b21]
        exact W.iret (v := (0 : Int32)) hx hb hr (fun t ht hW => ⟨congrArg (fun z => Outcome.returned (some (Value.int z))) er, ht⟩) (fun q h => absurd h List.not_mem_nil) dX0_cut_38
      · have b21 := bI_nz c21
        refine lv_aload_n hx hb dX0_cut_24 rfl (lv_at hl 0 rfl) ?_
        refine va_get (D := (dC, dI)) (ci := 0) (v := .ref a4) (C := RX0) (T := TX0) (N := 7) hx hb hts iwsX0_cut hown hK hP 0 rfl rfl 5 (by decide) (hts (.fieldLink RX0 19 "BranchTimes" "told" "[I") (by decide +kernel)) (fun _ h9 => h9) rfl dX0_cut_25 ?_
        refine lv_iload_n hx hb dX0_cut_28 rfl (lv_at hl 1 rfl) ?_
        refine va_iald (D := (dC, dI)) hx hb hK hP 4 0 rfl rfl (G_in b4) dX0_cut_29 ?_
        refine lv_iload_n hx hb dX0_cut_30 rfl (lv_at hl 2 rfl) ?_
        refine rd_S (As := [.int (fT g.toNatClampNeg), .int q]) (rest := []) S (c_X0_hasBit l (fT g.toNatClampNeg) q) gX0_cut_X0_hasBit rfl ⟨rfl, rfl⟩ hd_X0_hasBit ⟨Nat.le_of_ble_eq_true rfl, Nat.le_of_ble_eq_true rfl⟩ rfl hl.1 rfl (Nat.le_of_ble_eq_true rfl) dX0_cut_31 ⟨Nat.le_of_ble_eq_true rfl, Nat.le_of_ble_eq_true rfl⟩ ?_
        refine lv_if_ne (tgt := 39) hx hb dX0_cut_34 (by decide) (fun c34 => ?_) (fun c34 => ?_)
        · have b34 := bI_nz c34
          refine lv_aload_n hx hb dX0_cut_39 rfl (lv_at hl 0 rfl) ?_
          refine va_get (D := (dC, dI)) (ci := 0) (v := .ref a5) (C := RX0) (T := TX0) (N := 7) hx hb hts iwsX0_cut hown hK hP 0 rfl rfl 6 (by decide) (hts (.fieldLink RX0 22 "BranchTimes" "cutFrom" "[I") (by decide +kernel)) (fun _ h9 => h9) rfl dX0_cut_40 ?_
          refine lv_iload_n hx hb dX0_cut_43 rfl (lv_at hl 1 rfl) ?_
          refine lv_iload_n hx hb dX0_cut_44 rfl (lv_at hl 2 rfl) ?_
          refine rd_S (As := [.int g, .int q]) (rest := [.ref a5]) S (c_X0_cutPlace l g q) gX0_cut_X0_cutPlace rfl ⟨rfl, rfl⟩ hd_X0_cutPlace ⟨Nat.le_of_ble_eq_true rfl, Nat.le_of_ble_eq_true rfl⟩ rfl hl.1 rfl (Nat.le_of_ble_eq_true rfl) dX0_cut_45 ⟨Nat.le_of_ble_eq_true rfl, Nat.le_of_ble_eq_true rfl⟩ ?_
          refine va_iald (D := (dC, dI)) hx hb hK hP 5 0 rfl rfl (Cp_in b4 b11) dX0_cut_48 ?_
          have er : fC (xCp g q).toNatClampNeg = xCu tm fJ fT fC g q := by simp [xCu, b4, b11, b21, b34]
          exact W.iret (v := fC (xCp g q).toNatClampNeg) hx hb hr (fun t ht hW => ⟨congrArg (fun z => Outcome.returned (some (Value.int z))) er, ht⟩) (fun q h => absurd h List.not_mem_nil) dX0_cut_49
        · have b34 := bI_z c34
          refine lv_iconst (v := 0) hx hb dX0_cut_37 (by decide) ?_
          have er : (0 : Int32) = xCu tm fJ fT fC g q := by simp [xCu, b4, b11, b21, b34]
          exact W.iret (v := (0 : Int32)) hx hb hr (fun t ht hW => ⟨congrArg (fun z => Outcome.returned (some (Value.int z))) er, ht⟩) (fun q h => absurd h List.not_mem_nil) dX0_cut_38
    · have b11 := bI_z c11
      refine lv_iconst (v := -1) hx hb dX0_cut_14 (by decide) ?_
      have er : (-1 : Int32) = xCu tm fJ fT fC g q := by simp [xCu, b4, b11]
      exact W.iret (v := (-1 : Int32)) hx hb hr (fun t ht hW => ⟨congrArg (fun z => Outcome.returned (some (Value.int z))) er, ht⟩) (fun q h => absurd h List.not_mem_nil) dX0_cut_15
theorem hd_X0_cut : yX0_cut.cls = RX0 ∧ yX0_cut.cls ≠ "java/lang/invoke/MethodHandle" ∧ yX0_cut.cls ≠ "java/lang/invoke/VarHandle" ∧ (parseMethodDescriptor yX0_cut.desc).map (fun d => d.parameters.length) = some 2 := by decide +kernel

theorem iwsX0_members : ∀ w ∈ u_ws RX0 TX0 7, w ∈ wsX0_members := fun _ h => List.mem_cons_of_mem _ (List.mem_append_right _ h)
set_option maxHeartbeats 4000000 in
set_option maxRecDepth 100000 in
theorem c_X0_members (l : Launch) (dC : Nat → ClassId) (dI : Nat → Nat → Nat) (h a1 a2 a3 a4 a5 : Nat) (cA : ClassId) (me tm : Int32) (fN fM fJ fT fC : Nat → Int32) (g : Int32) : Met l yX0_members wsX0_members ({ frames := 2, cells := 0, slots := 0, locals := 42 }) (PR [.ref h, .int g] dC dI cA (wX h a1 a2 a3 a4 a5 cA me tm fN fM fJ fT fC)) (QcRead (xMe tm fM g)) 0 0 (fun _ => False) := by
  refine Met.ofW (cc := cX0_members) (maxL := 2) (ret := some .int) (by decide) rfl ?_
  intro p e s m args below meth c s₁ B hml hv
  obtain ⟨rfl, hP, hK⟩ := hv
  have hx := B.exec
  have hb := B.bytes
  have hr := B.returns
  have hts := atoms_spec (ws := wsX0_members) B.pre
  have hown : s.vm.findClass RX0 = some m.cls := findClass_of_methodNamed B.named
  have hlocks := B.notSynchronized
  have S : CallFix p m c cX0_members 2 s ([.ref h, .int g] : List Value).toArray wsX0_members RX0 := ⟨hx, hb, hml, hown, hts⟩
  have hl := lv_entry ([.ref h, .int g]) (n := 2) (Nat.le_of_ble_eq_true rfl)
  rw [lg_entry_eq]
  generalize (lg_sl ([.ref h, .int g]) ++ List.replicate (2 - (lg_sl ([.ref h, .int g])).length) Slot.unset).toArray = ls at hl ⊢
  have hl : lv_has ls 2 [(0, .ref h), (1, .int g)] := hl
  refine lv_iload_n hx hb dX0_members_0 rfl (lv_at hl 1 rfl) ?_
  refine rd_S (As := [.int g]) (rest := []) S (c_X0_isGroup l g) gX0_members_X0_isGroup rfl ⟨rfl, rfl⟩ hd_X0_isGroup ⟨Nat.le_of_ble_eq_true rfl, Nat.le_of_ble_eq_true rfl⟩ rfl hl.1 rfl (Nat.le_of_ble_eq_true rfl) dX0_members_1 ⟨Nat.le_of_ble_eq_true rfl, Nat.le_of_ble_eq_true rfl⟩ ?_
  refine lv_if_ne (tgt := 9) hx hb dX0_members_4 (by decide) (fun c4 => ?_) (fun c4 => ?_)
  · have b4 := bI_nz c4
    refine lv_aload_n hx hb dX0_members_9 rfl (lv_at hl 0 rfl) ?_
    refine lv_aload_n hx hb dX0_members_10 rfl (lv_at hl 0 rfl) ?_
    refine va_get (D := (dC, dI)) (ci := 0) (v := .ref a2) (C := RX0) (T := TX0) (N := 7) hx hb hts iwsX0_members hown hK hP 0 rfl rfl 3 (by decide) (hts (.fieldLink RX0 13 "BranchTimes" "membersTill" "[I") (by decide +kernel)) (fun _ h9 => h9) rfl dX0_members_11 ?_
    refine lv_iload_n hx hb dX0_members_14 rfl (lv_at hl 1 rfl) ?_
    refine va_iald (D := (dC, dI)) hx hb hK hP 2 0 rfl rfl (G_in b4) dX0_members_15 ?_
    refine rd_V (As := [.int (fM g.toNatClampNeg)]) (rest := []) (ci := 0) (qc := (RX0, TX0, 7)) S (c_X0_tillOrZero l dC dI h a1 a2 a3 a4 a5 cA me tm fN fM fJ fT fC (fM g.toNatClampNeg)) gX0_members_X0_tillOrZero rfl ⟨rfl, rfl⟩ hd_X0_tillOrZero ⟨Nat.le_of_ble_eq_true rfl, Nat.le_of_ble_eq_true rfl⟩ hK hP rfl rfl rfl hl.1 rfl (Nat.le_of_ble_eq_true rfl) dX0_members_16 ⟨Nat.le_of_ble_eq_true rfl, Nat.le_of_ble_eq_true rfl⟩ ?_
    have er : xTz tm (fM g.toNatClampNeg) = xMe tm fM g := by simp [xMe, b4]
    exact W.iret (v := xTz tm (fM g.toNatClampNeg)) hx hb hr (fun t ht hW => ⟨congrArg (fun z => Outcome.returned (some (Value.int z))) er, ht⟩) (fun q h => absurd h List.not_mem_nil) dX0_members_19
  · have b4 := bI_z c4
    refine lv_iconst (v := -1) hx hb dX0_members_7 (by decide) ?_
    have er : (-1 : Int32) = xMe tm fM g := by simp [xMe, b4]
    exact W.iret (v := (-1 : Int32)) hx hb hr (fun t ht hW => ⟨congrArg (fun z => Outcome.returned (some (Value.int z))) er, ht⟩) (fun q h => absurd h List.not_mem_nil) dX0_members_8
theorem hd_X0_members : yX0_members.cls = RX0 ∧ yX0_members.cls ≠ "java/lang/invoke/MethodHandle" ∧ yX0_members.cls ≠ "java/lang/invoke/VarHandle" ∧ (parseMethodDescriptor yX0_members.desc).map (fun d => d.parameters.length) = some 1 := by decide +kernel

theorem iwsX0_goes : ∀ w ∈ u_ws RX0 TX0 7, w ∈ wsX0_goes := fun _ h => List.mem_cons_of_mem _ (List.mem_append_right _ h)
set_option maxHeartbeats 4000000 in
set_option maxRecDepth 100000 in
theorem c_X0_goes (l : Launch) (dC : Nat → ClassId) (dI : Nat → Nat → Nat) (h a1 a2 a3 a4 a5 : Nat) (cA : ClassId) (me tm : Int32) (fN fM fJ fT fC : Nat → Int32) (g : Int32) : Met l yX0_goes wsX0_goes ({ frames := 4, cells := 0, slots := 0, locals := 87 }) (PR [.ref h, .int g] dC dI cA (wX h a1 a2 a3 a4 a5 cA me tm fN fM fJ fT fC)) (QcRead (xGoes me tm fN fM fJ fT fC g)) 0 0 (fun _ => False) := by
  refine Met.ofW (cc := cX0_goes) (maxL := 2) (ret := some .int) (by decide) rfl ?_
  intro p e s m args below meth c s₁ B hml hv
  obtain ⟨rfl, hP, hK⟩ := hv
  have hx := B.exec
  have hb := B.bytes
  have hr := B.returns
  have hts := atoms_spec (ws := wsX0_goes) B.pre
  have hown : s.vm.findClass RX0 = some m.cls := findClass_of_methodNamed B.named
  have hlocks := B.notSynchronized
  have S : CallFix p m c cX0_goes 2 s ([.ref h, .int g] : List Value).toArray wsX0_goes RX0 := ⟨hx, hb, hml, hown, hts⟩
  have hl := lv_entry ([.ref h, .int g]) (n := 2) (Nat.le_of_ble_eq_true rfl)
  rw [lg_entry_eq]
  generalize (lg_sl ([.ref h, .int g]) ++ List.replicate (2 - (lg_sl ([.ref h, .int g])).length) Slot.unset).toArray = ls at hl ⊢
  have hl : lv_has ls 2 [(0, .ref h), (1, .int g)] := hl
  refine lv_iload_n hx hb dX0_goes_0 rfl (lv_at hl 1 rfl) ?_
  refine rd_S (As := [.int g]) (rest := []) S (c_X0_isGroup l g) gX0_goes_X0_isGroup rfl ⟨rfl, rfl⟩ hd_X0_isGroup ⟨Nat.le_of_ble_eq_true rfl, Nat.le_of_ble_eq_true rfl⟩ rfl hl.1 rfl (Nat.le_of_ble_eq_true rfl) dX0_goes_1 ⟨Nat.le_of_ble_eq_true rfl, Nat.le_of_ble_eq_true rfl⟩ ?_
  refine lv_if_ne (tgt := 9) hx hb dX0_goes_4 (by decide) (fun c4 => ?_) (fun c4 => ?_)
  · have b4 := bI_nz c4
    refine lv_aload_n hx hb dX0_goes_9 rfl (lv_at hl 0 rfl) ?_
    refine lv_iload_n hx hb dX0_goes_10 rfl (lv_at hl 1 rfl) ?_
    refine rd_V (As := [.int g]) (rest := []) (ci := 0) (qc := (RX0, TX0, 7)) S (c_X0_sourcesThatGo l dC dI h a1 a2 a3 a4 a5 cA me tm fN fM fJ fT fC g b4) gX0_goes_X0_sourcesThatGo rfl ⟨rfl, rfl⟩ hd_X0_sourcesThatGo ⟨Nat.le_of_ble_eq_true rfl, Nat.le_of_ble_eq_true rfl⟩ hK hP rfl rfl rfl hl.1 rfl (Nat.le_of_ble_eq_true rfl) dX0_goes_11 ⟨Nat.le_of_ble_eq_true rfl, Nat.le_of_ble_eq_true rfl⟩ ?_
    have er : xGo me tm fN fM fJ fT fC g = xGoes me tm fN fM fJ fT fC g := by simp [xGoes, b4]
    exact W.iret (v := xGo me tm fN fM fJ fT fC g) hx hb hr (fun t ht hW => ⟨congrArg (fun z => Outcome.returned (some (Value.int z))) er, ht⟩) (fun q h => absurd h List.not_mem_nil) dX0_goes_14
  · have b4 := bI_z c4
    refine lv_iconst (v := -1) hx hb dX0_goes_7 (by decide) ?_
    have er : (-1 : Int32) = xGoes me tm fN fM fJ fT fC g := by simp [xGoes, b4]
    exact W.iret (v := (-1 : Int32)) hx hb hr (fun t ht hW => ⟨congrArg (fun z => Outcome.returned (some (Value.int z))) er, ht⟩) (fun q h => absurd h List.not_mem_nil) dX0_goes_8
theorem hd_X0_goes : yX0_goes.cls = RX0 ∧ yX0_goes.cls ≠ "java/lang/invoke/MethodHandle" ∧ yX0_goes.cls ≠ "java/lang/invoke/VarHandle" ∧ (parseMethodDescriptor yX0_goes.desc).map (fun d => d.parameters.length) = some 1 := by decide +kernel

theorem iwsX0_look : ∀ w ∈ u_ws RX0 TX0 7, w ∈ wsX0_look := fun _ h => List.mem_cons_of_mem _ (List.mem_append_right _ h)
set_option maxHeartbeats 4000000 in
set_option maxRecDepth 100000 in
theorem c_X0_look (l : Launch) (dC : Nat → ClassId) (dI : Nat → Nat → Nat) (h a1 a2 a3 a4 a5 : Nat) (cA : ClassId) (me tm : Int32) (fN fM fJ fT fC : Nat → Int32) (w : Int32) : Met l yX0_look wsX0_look ({ frames := 5, cells := 0, slots := 0, locals := 109 }) (PR [.ref h, .int w] dC dI cA (wX h a1 a2 a3 a4 a5 cA me tm fN fM fJ fT fC)) (QcRead (xLook me tm fN fM fJ fT fC w)) 0 0 (fun _ => False) := by
  refine Met.ofW (cc := cX0_look) (maxL := 2) (ret := some .int) (by decide) rfl ?_
  intro p e s m args below meth c s₁ B hml hv
  obtain ⟨rfl, hP, hK⟩ := hv
  have hx := B.exec
  have hb := B.bytes
  have hr := B.returns
  have hts := atoms_spec (ws := wsX0_look) B.pre
  have hown : s.vm.findClass RX0 = some m.cls := findClass_of_methodNamed B.named
  have hlocks := B.notSynchronized
  have S : CallFix p m c cX0_look 2 s ([.ref h, .int w] : List Value).toArray wsX0_look RX0 := ⟨hx, hb, hml, hown, hts⟩
  have hl := lv_entry ([.ref h, .int w]) (n := 2) (Nat.le_of_ble_eq_true rfl)
  rw [lg_entry_eq]
  generalize (lg_sl ([.ref h, .int w]) ++ List.replicate (2 - (lg_sl ([.ref h, .int w])).length) Slot.unset).toArray = ls at hl ⊢
  have hl : lv_has ls 2 [(0, .ref h), (1, .int w)] := hl
  refine lv_iload_n hx hb dX0_look_0 rfl (lv_at hl 1 rfl) ?_
  rcases Decidable.em (w = 0) with hw0 | hw0
  · refine lv_tableIn (off := 47) (tgt := 48) hx hb dX0_look_1 (by rw [hw0]; decide) (by rw [hw0]; decide) (by rw [hw0]; rfl) (by decide) ?_
    refine lv_aload_n hx hb dX0_look_48 rfl (lv_at hl 0 rfl) ?_
    refine va_get (D := (dC, dI)) (ci := 0) (v := .int tm) (C := RX0) (T := TX0) (N := 7) hx hb hts iwsX0_look hown hK hP 0 rfl rfl 1 (by decide) (hts (.fieldLink RX0 38 "BranchTimes" "time" "I") (by decide +kernel)) (fun _ h9 => h9) rfl dX0_look_49 ?_
    have er : tm = xLook me tm fN fM fJ fT fC w := by unfold xLook; rw [if_pos hw0]
    exact W.iret (v := tm) hx hb hr (fun t ht hW => ⟨congrArg (fun z => Outcome.returned (some (Value.int z))) er, ht⟩) (fun q h => absurd h List.not_mem_nil) dX0_look_52
  rcases Decidable.em (w = 1) with hw1 | hw1
  · refine lv_tableIn (off := 52) (tgt := 53) hx hb dX0_look_1 (by rw [hw1]; decide) (by rw [hw1]; decide) (by rw [hw1]; rfl) (by decide) ?_
    refine lv_aload_n hx hb dX0_look_53 rfl (lv_at hl 0 rfl) ?_
    refine rd_V (As := []) (rest := []) (ci := 0) (qc := (RX0, TX0, 7)) S (c_X0_neighbourBits l dC dI h a1 a2 a3 a4 a5 cA me tm fN fM fJ fT fC) gX0_look_X0_neighbourBits rfl ⟨rfl, rfl⟩ hd_X0_neighbourBits ⟨Nat.le_of_ble_eq_true rfl, Nat.le_of_ble_eq_true rfl⟩ hK hP rfl rfl rfl hl.1 rfl (Nat.le_of_ble_eq_true rfl) dX0_look_54 ⟨Nat.le_of_ble_eq_true rfl, Nat.le_of_ble_eq_true rfl⟩ ?_
    have er : xNb tm fN = xLook me tm fN fM fJ fT fC w := by unfold xLook; rw [if_neg (by rw [hw1]; decide), if_pos hw1]
    exact W.iret (v := xNb tm fN) hx hb hr (fun t ht hW => ⟨congrArg (fun z => Outcome.returned (some (Value.int z))) er, ht⟩) (fun q h => absurd h List.not_mem_nil) dX0_look_57
  rcases Decidable.em (w = 2) with hw2 | hw2
  · refine lv_tableIn (off := 57) (tgt := 58) hx hb dX0_look_1 (by rw [hw2]; decide) (by rw [hw2]; decide) (by rw [hw2]; rfl) (by decide) ?_
    refine lv_aload_n hx hb dX0_look_58 rfl (lv_at hl 0 rfl) ?_
    refine rd_V (As := []) (rest := []) (ci := 0) (qc := (RX0, TX0, 7)) S (c_X0_isFirst l dC dI h a1 a2 a3 a4 a5 cA me tm fN fM fJ fT fC) gX0_look_X0_isFirst rfl ⟨rfl, rfl⟩ hd_X0_isFirst ⟨Nat.le_of_ble_eq_true rfl, Nat.le_of_ble_eq_true rfl⟩ hK hP rfl rfl rfl hl.1 rfl (Nat.le_of_ble_eq_true rfl) dX0_look_59 ⟨Nat.le_of_ble_eq_true rfl, Nat.le_of_ble_eq_true rfl⟩ ?_
    refine rd_S (As := [.int (bI (xFirst me (xNb tm fN)))]) (rest := []) S (c_X0_oneIf l (bI (xFirst me (xNb tm fN)))) gX0_look_X0_oneIf rfl ⟨rfl, rfl⟩ hd_X0_oneIf ⟨Nat.le_of_ble_eq_true rfl, Nat.le_of_ble_eq_true rfl⟩ rfl hl.1 rfl (Nat.le_of_ble_eq_true rfl) dX0_look_62 ⟨Nat.le_of_ble_eq_true rfl, Nat.le_of_ble_eq_true rfl⟩ ?_
    refine lv_top (x' := bI (xFirst me (xNb tm fN))) (oneIf_bI (xFirst me (xNb tm fN))) ?_
    have er : bI (xFirst me (xNb tm fN)) = xLook me tm fN fM fJ fT fC w := by unfold xLook; rw [if_neg (by rw [hw2]; decide), if_neg (by rw [hw2]; decide), if_pos hw2]
    exact W.iret (v := bI (xFirst me (xNb tm fN))) hx hb hr (fun t ht hW => ⟨congrArg (fun z => Outcome.returned (some (Value.int z))) er, ht⟩) (fun q h => absurd h List.not_mem_nil) dX0_look_65
  rcases Decidable.em (w = 3) with hw3 | hw3
  · refine lv_tableIn (off := 65) (tgt := 66) hx hb dX0_look_1 (by rw [hw3]; decide) (by rw [hw3]; decide) (by rw [hw3]; rfl) (by decide) ?_
    refine lv_aload_n hx hb dX0_look_66 rfl (lv_at hl 0 rfl) ?_
    refine rd_V (As := []) (rest := []) (ci := 0) (qc := (RX0, TX0, 7)) S (c_X0_isAsking l dC dI h a1 a2 a3 a4 a5 cA me tm fN fM fJ fT fC) gX0_look_X0_isAsking rfl ⟨rfl, rfl⟩ hd_X0_isAsking ⟨Nat.le_of_ble_eq_true rfl, Nat.le_of_ble_eq_true rfl⟩ hK hP rfl rfl rfl hl.1 rfl (Nat.le_of_ble_eq_true rfl) dX0_look_67 ⟨Nat.le_of_ble_eq_true rfl, Nat.le_of_ble_eq_true rfl⟩ ?_
    refine rd_S (As := [.int (bI (xAsk me (xNb tm fN)))]) (rest := []) S (c_X0_oneIf l (bI (xAsk me (xNb tm fN)))) gX0_look_X0_oneIf rfl ⟨rfl, rfl⟩ hd_X0_oneIf ⟨Nat.le_of_ble_eq_true rfl, Nat.le_of_ble_eq_true rfl⟩ rfl hl.1 rfl (Nat.le_of_ble_eq_true rfl) dX0_look_70 ⟨Nat.le_of_ble_eq_true rfl, Nat.le_of_ble_eq_true rfl⟩ ?_
    refine lv_top (x' := bI (xAsk me (xNb tm fN))) (oneIf_bI (xAsk me (xNb tm fN))) ?_
    have er : bI (xAsk me (xNb tm fN)) = xLook me tm fN fM fJ fT fC w := by unfold xLook; rw [if_neg (by rw [hw3]; decide), if_neg (by rw [hw3]; decide), if_neg (by rw [hw3]; decide), if_pos hw3]
    exact W.iret (v := bI (xAsk me (xNb tm fN))) hx hb hr (fun t ht hW => ⟨congrArg (fun z => Outcome.returned (some (Value.int z))) er, ht⟩) (fun q h => absurd h List.not_mem_nil) dX0_look_73
  rcases Decidable.em (w = 4) with hw4 | hw4
  · refine lv_tableIn (off := 73) (tgt := 74) hx hb dX0_look_1 (by rw [hw4]; decide) (by rw [hw4]; decide) (by rw [hw4]; rfl) (by decide) ?_
    refine lv_aload_n hx hb dX0_look_74 rfl (lv_at hl 0 rfl) ?_
    refine rd_V (As := []) (rest := []) (ci := 0) (qc := (RX0, TX0, 7)) S (c_X0_isCrowded l dC dI h a1 a2 a3 a4 a5 cA me tm fN fM fJ fT fC) gX0_look_X0_isCrowded rfl ⟨rfl, rfl⟩ hd_X0_isCrowded ⟨Nat.le_of_ble_eq_true rfl, Nat.le_of_ble_eq_true rfl⟩ hK hP rfl rfl rfl hl.1 rfl (Nat.le_of_ble_eq_true rfl) dX0_look_75 ⟨Nat.le_of_ble_eq_true rfl, Nat.le_of_ble_eq_true rfl⟩ ?_
    refine rd_S (As := [.int (bI (xCrowd (xNb tm fN)))]) (rest := []) S (c_X0_oneIf l (bI (xCrowd (xNb tm fN)))) gX0_look_X0_oneIf rfl ⟨rfl, rfl⟩ hd_X0_oneIf ⟨Nat.le_of_ble_eq_true rfl, Nat.le_of_ble_eq_true rfl⟩ rfl hl.1 rfl (Nat.le_of_ble_eq_true rfl) dX0_look_78 ⟨Nat.le_of_ble_eq_true rfl, Nat.le_of_ble_eq_true rfl⟩ ?_
    refine lv_top (x' := bI (xCrowd (xNb tm fN))) (oneIf_bI (xCrowd (xNb tm fN))) ?_
    have er : bI (xCrowd (xNb tm fN)) = xLook me tm fN fM fJ fT fC w := by unfold xLook; rw [if_neg (by rw [hw4]; decide), if_neg (by rw [hw4]; decide), if_neg (by rw [hw4]; decide), if_neg (by rw [hw4]; decide), if_pos hw4]
    exact W.iret (v := bI (xCrowd (xNb tm fN))) hx hb hr (fun t ht hW => ⟨congrArg (fun z => Outcome.returned (some (Value.int z))) er, ht⟩) (fun q h => absurd h List.not_mem_nil) dX0_look_81
  rcases Decidable.em (w = 5) with hw5 | hw5
  · refine lv_tableIn (off := 81) (tgt := 82) hx hb dX0_look_1 (by rw [hw5]; decide) (by rw [hw5]; decide) (by rw [hw5]; rfl) (by decide) ?_
    refine lv_aload_n hx hb dX0_look_82 rfl (lv_at hl 0 rfl) ?_
    refine va_get (D := (dC, dI)) (ci := 0) (v := .int me) (C := RX0) (T := TX0) (N := 7) hx hb hts iwsX0_look hown hK hP 0 rfl rfl 0 (by decide) (hts (.fieldLink RX0 34 "BranchTimes" "me" "I") (by decide +kernel)) (fun _ h9 => h9) rfl dX0_look_83 ?_
    have er : me = xLook me tm fN fM fJ fT fC w := by unfold xLook; rw [if_neg (by rw [hw5]; decide), if_neg (by rw [hw5]; decide), if_neg (by rw [hw5]; decide), if_neg (by rw [hw5]; decide), if_neg (by rw [hw5]; decide), if_pos hw5]
    exact W.iret (v := me) hx hb hr (fun t ht hW => ⟨congrArg (fun z => Outcome.returned (some (Value.int z))) er, ht⟩) (fun q h => absurd h List.not_mem_nil) dX0_look_86
  rcases Decidable.em (w = 6) with hw6 | hw6
  · refine lv_tableIn (off := 86) (tgt := 87) hx hb dX0_look_1 (by rw [hw6]; decide) (by rw [hw6]; decide) (by rw [hw6]; rfl) (by decide) ?_
    refine lv_aload_n hx hb dX0_look_87 rfl (lv_at hl 0 rfl) ?_
    refine rd_V (As := []) (rest := []) (ci := 0) (qc := (RX0, TX0, 7)) S (c_X0_groupsThatGo l dC dI h a1 a2 a3 a4 a5 cA me tm fN fM fJ fT fC) gX0_look_X0_groupsThatGo rfl ⟨rfl, rfl⟩ hd_X0_groupsThatGo ⟨Nat.le_of_ble_eq_true rfl, Nat.le_of_ble_eq_true rfl⟩ hK hP rfl rfl rfl hl.1 rfl (Nat.le_of_ble_eq_true rfl) dX0_look_88 ⟨Nat.le_of_ble_eq_true rfl, Nat.le_of_ble_eq_true rfl⟩ ?_
    have er : xGr me tm fN fM fJ fT fC = xLook me tm fN fM fJ fT fC w := by unfold xLook; rw [if_neg (by rw [hw6]; decide), if_neg (by rw [hw6]; decide), if_neg (by rw [hw6]; decide), if_neg (by rw [hw6]; decide), if_neg (by rw [hw6]; decide), if_neg (by rw [hw6]; decide), if_pos hw6]
    exact W.iret (v := xGr me tm fN fM fJ fT fC) hx hb hr (fun t ht hW => ⟨congrArg (fun z => Outcome.returned (some (Value.int z))) er, ht⟩) (fun q h => absurd h List.not_mem_nil) dX0_look_91
  rcases Decidable.em (w = 7) with hw7 | hw7
  · refine lv_tableIn (off := 91) (tgt := 92) hx hb dX0_look_1 (by rw [hw7]; decide) (by rw [hw7]; decide) (by rw [hw7]; rfl) (by decide) ?_
    refine lv_aload_n hx hb dX0_look_92 rfl (lv_at hl 0 rfl) ?_
    refine rd_V (As := []) (rest := []) (ci := 0) (qc := (RX0, TX0, 7)) S (c_X0_countJoined l dC dI h a1 a2 a3 a4 a5 cA me tm fN fM fJ fT fC) gX0_look_X0_countJoined rfl ⟨rfl, rfl⟩ hd_X0_countJoined ⟨Nat.le_of_ble_eq_true rfl, Nat.le_of_ble_eq_true rfl⟩ hK hP rfl rfl rfl hl.1 rfl (Nat.le_of_ble_eq_true rfl) dX0_look_93 ⟨Nat.le_of_ble_eq_true rfl, Nat.le_of_ble_eq_true rfl⟩ ?_
    have er : xCnt tm fJ = xLook me tm fN fM fJ fT fC w := by unfold xLook; rw [if_neg (by rw [hw7]; decide), if_neg (by rw [hw7]; decide), if_neg (by rw [hw7]; decide), if_neg (by rw [hw7]; decide), if_neg (by rw [hw7]; decide), if_neg (by rw [hw7]; decide), if_neg (by rw [hw7]; decide), if_pos hw7]
    exact W.iret (v := xCnt tm fJ) hx hb hr (fun t ht hW => ⟨congrArg (fun z => Outcome.returned (some (Value.int z))) er, ht⟩) (fun q h => absurd h List.not_mem_nil) dX0_look_96
  refine lv_tableOut (tgt := 97) hx hb dX0_look_1 (tb_out8 hw0 hw1 hw2 hw3 hw4 hw5 hw6 hw7) (by decide) ?_
  refine lv_iconst (v := -1) hx hb dX0_look_97 (by decide) ?_
  have er : (-1 : Int32) = xLook me tm fN fM fJ fT fC w := by unfold xLook; rw [if_neg hw0, if_neg hw1, if_neg hw2, if_neg hw3, if_neg hw4, if_neg hw5, if_neg hw6, if_neg hw7]
  exact W.iret (v := (-1 : Int32)) hx hb hr (fun t ht hW => ⟨congrArg (fun z => Outcome.returned (some (Value.int z))) er, ht⟩) (fun q h => absurd h List.not_mem_nil) dX0_look_98
theorem hd_X0_look : yX0_look.cls = RX0 ∧ yX0_look.cls ≠ "java/lang/invoke/MethodHandle" ∧ yX0_look.cls ≠ "java/lang/invoke/VarHandle" ∧ (parseMethodDescriptor yX0_look.desc).map (fun d => d.parameters.length) = some 1 := by decide +kernel
end
section
set_option maxHeartbeats 4000000 in
set_option maxRecDepth 100000 in
theorem lp_fill {p : Program} {e : Env} {s : State} {m : MethodId} {args : Array Value} {below : List Frame} {meth : Method} {c : Code} {R : Room} {cells slots : Nat} {Q : State → Prop} {A : Nat → Prop} {H0 : Heap} (l : Launch) (dC : Nat → ClassId) (dI : Nat → Nat → Nat) (a : Nat) (cA : ClassId) (N : Nat) (f : Nat → Int32) (v : Int32) (hN : N < 2 ^ 31) (S : CallFix p m c cJ7_fill_53178 4 s args wsJ7_fill_53178 RJ7) (hK : va_K (dC, dI) vwCl [(cA, .int)] s) (k : ∀ (H : Heap) (locs : List Loc) (ls : Array Slot), va_P (dC, dI) vwCl [(a, .inl (cA, N, .inl (fillI f v N)))] H → va_S A H0 H locs → W p l e R s m args below meth c H locs cells slots Q (F0 m 20 ls [])) : ∀ (n i : Nat), i + n = N → ∀ (H : Heap) (locs : List Loc) (ls : Array Slot), va_P (dC, dI) vwCl [(a, .inl (cA, N, .inl (fillI f v i)))] H → va_D A [(a, .inl (cA, N, .inl (fillI f v i)))] → va_S A H0 H locs → lv_has ls 4 [(0, .ref a), (1, .int v), (2, .int (nI i)), (3, .int (nI N))] → W p l e R s m args below meth c H locs cells slots Q (F0 m 5 ls []) := by
  obtain ⟨hx, hb, hml, hown, hts⟩ := id S
  intro n
  induction n with
  | zero =>
    intro i hi H locs ls hP hD hS hl
    obtain rfl : i = N := by omega
    refine lv_iload_n hx hb dJ7_fill_53178_5 rfl (lv_at hl 2 rfl) ?_
    refine lv_iload_n hx hb dJ7_fill_53178_6 rfl (lv_at hl 3 rfl) ?_
    refine lv_icmp_ge (tgt := 20) hx hb dJ7_fill_53178_7 (by decide) (fun c7 => ?_) (fun c7 => ?_)
    · exact k _ _ ls hP hS
    · exact absurd (nI_le (Nat.le_refl i) hN) c7
  | succ n ih =>
    intro i hi H locs ls hP hD hS hl
    have hlt : i < N := by omega
    have hcl : (nI i).toNatClampNeg = i := nI_clamp (by omega)
    refine lv_iload_n hx hb dJ7_fill_53178_5 rfl (lv_at hl 2 rfl) ?_
    refine lv_iload_n hx hb dJ7_fill_53178_6 rfl (lv_at hl 3 rfl) ?_
    refine lv_icmp_ge (tgt := 20) hx hb dJ7_fill_53178_7 (by decide) (fun c7 => ?_) (fun c7 => ?_)
    · exact absurd c7 (nI_ge hlt hN)
    · refine lv_aload_n hx hb dJ7_fill_53178_10 rfl (lv_at hl 0 rfl) ?_
      refine lv_iload_n hx hb dJ7_fill_53178_11 rfl (lv_at hl 2 rfl) ?_
      refine lv_iload_n hx hb dJ7_fill_53178_12 rfl (lv_at hl 1 rfl) ?_
      refine va_iast (D := (dC, dI)) hx hb hK hP hD hS 0 0 rfl rfl (vp_in_nI hlt hN) dJ7_fill_53178_13 (fun H locs hP hD hS => ?_)
      have hP : va_P (dC, dI) vwCl [(a, .inl (cA, N, .inl (upd (fillI f v i) (nI i).toNatClampNeg v)))] H := hP
      rw [hcl] at hP
      refine lv_iinc (v := nI (i + 1)) (lv' := [(2, .int (nI (i + 1))), (0, .ref a), (1, .int v), (3, .int (nI N))]) hx hb dJ7_fill_53178_14 hl (k := 2) rfl (nI_1 _) (by decide) rfl (fun ls hl => ?_)
      refine lv_goto (tgt := 5) hx hb dJ7_fill_53178_17 (by decide) ?_
      exact ih (i + 1) (by omega) _ _ ls hP (D_same hD rfl) hS (lv_sub hl [1, 2, 0, 3] rfl)
set_option maxHeartbeats 4000000 in
set_option maxRecDepth 100000 in
theorem c_J7_fill_53178 (l : Launch) (dC : Nat → ClassId) (dI : Nat → Nat → Nat) (a : Nat) (cA : ClassId) (N : Nat) (f : Nat → Int32) (v : Int32) (hN : N < 2 ^ 31) (sz : Nat) : Met l yJ7_fill_53178 wsJ7_fill_53178 ({ frames := 0, cells := 0, slots := 0, locals := 0 }) (PW [.ref a, .int v] dC dI cA [(a, .inl (cA, N, .inl f))] sz) (QWv dC dI [(a, .inl (cA, N, .inl f))] [(a, .inl (cA, N, .inl (fillI f v N)))] sz) 0 0 (va_A [(a, .inl (cA, N, .inl f))] sz) := by
  refine Met.ofW (cc := cJ7_fill_53178) (maxL := 4) (ret := none) (by decide) rfl ?_
  intro p e s m args below meth c s₁ B hml hv
  obtain ⟨rfl, hsz, hP, hK, hD0⟩ := hv
  have hx := B.exec
  have hb := B.bytes
  have hr := B.returns
  have hts := atoms_spec (ws := wsJ7_fill_53178) B.pre
  have hown : s.vm.findClass RJ7 = some m.cls := findClass_of_methodNamed B.named
  have hlocks := B.notSynchronized
  have S : CallFix p m c cJ7_fill_53178 4 s ([.ref a, .int v] : List Value).toArray wsJ7_fill_53178 RJ7 := ⟨hx, hb, hml, hown, hts⟩
  subst hsz
  have hD := hD0.self (sz := s.heap.size)
  have hS : va_S (va_A [(a, .inl (cA, N, .inl f))] s.heap.size) s.heap s.heap [] := va_S.rf
  have hl := lv_entry ([.ref a, .int v]) (n := 4) (Nat.le_of_ble_eq_true rfl)
  rw [lg_entry_eq]
  generalize (lg_sl ([.ref a, .int v]) ++ List.replicate (4 - (lg_sl ([.ref a, .int v])).length) Slot.unset).toArray = ls at hl ⊢
  have hl : lv_has ls 4 [(0, .ref a), (1, .int v)] := hl
  refine lv_iconst (v := 0) hx hb dJ7_fill_53178_0 (by decide) ?_
  refine lv_istore_n (lv' := [(2, .int 0), (0, .ref a), (1, .int v)]) hx hb dJ7_fill_53178_1 rfl hl (by decide) rfl (fun ls hl => ?_)
  refine lv_aload_n hx hb dJ7_fill_53178_2 rfl (lv_at hl 1 rfl) ?_
  refine va_alen (D := (dC, dI)) (v := nI N) hx hb hK hP 0 0 rfl rfl rfl dJ7_fill_53178_3 ?_
  refine lv_istore_n (lv' := [(3, .int (nI N)), (2, .int 0), (0, .ref a), (1, .int v)]) hx hb dJ7_fill_53178_4 rfl hl (by decide) rfl (fun ls hl => ?_)
  refine lp_fill l dC dI a cA N f v hN S hK (fun H locs ls hP hS => ?_) N 0 (Nat.zero_add N) _ _ ls hP hD hS (lv_sub hl [2, 3, 1, 0] rfl)
  exact W.vret hx hb hr (fun t ht hW => ⟨⟨(), rfl, trivial, by dsimp only; rw [ht]; exact hP⟩, hS.F ht⟩) hS.2.2 dJ7_fill_53178_20
theorem hd_J7_fill_53178 : yJ7_fill_53178.cls ≠ "java/lang/invoke/MethodHandle" ∧ yJ7_fill_53178.cls ≠ "java/lang/invoke/VarHandle" ∧ (parseMethodDescriptor yJ7_fill_53178.desc).map (fun d => d.parameters.length) = some 2 := by decide +kernel
end
section
theorem iwsX0_tick : ∀ w ∈ u_ws RX0 TX0 7, w ∈ wsX0_tick := fun _ h => List.mem_cons_of_mem _ (List.mem_append_right _ h)
set_option maxHeartbeats 4000000 in
set_option maxRecDepth 100000 in
theorem c_X0_tick (l : Launch) (dC : Nat → ClassId) (dI : Nat → Nat → Nat) (h a1 a2 a3 a4 a5 : Nat) (cA : ClassId) (me tm : Int32) (fN fM fJ fT fC : Nat → Int32) (n : Int32) (sz : Nat) : Met l yX0_tick wsX0_tick ({ frames := 0, cells := 0, slots := 0, locals := 0 }) (PW [.ref h, .int n] dC dI cA (wX h a1 a2 a3 a4 a5 cA me tm fN fM fJ fT fC) sz) (QWi dC dI (xTickR tm n) (wX h a1 a2 a3 a4 a5 cA me tm fN fM fJ fT fC) (wX h a1 a2 a3 a4 a5 cA me (xTickT tm n) fN fM fJ fT fC) sz) 0 0 (va_A (wX h a1 a2 a3 a4 a5 cA me tm fN fM fJ fT fC) sz) := by
  refine Met.ofW (cc := cX0_tick) (maxL := 2) (ret := some .int) (by decide) rfl ?_
  intro p e s m args below meth c s₁ B hml hv
  obtain ⟨rfl, hsz, hP, hK, hD0⟩ := hv
  have hx := B.exec
  have hb := B.bytes
  have hr := B.returns
  have hts := atoms_spec (ws := wsX0_tick) B.pre
  have hown : s.vm.findClass RX0 = some m.cls := findClass_of_methodNamed B.named
  have hlocks := B.notSynchronized
  have S : CallFix p m c cX0_tick 2 s ([.ref h, .int n] : List Value).toArray wsX0_tick RX0 := ⟨hx, hb, hml, hown, hts⟩
  subst hsz
  have hD := hD0.self (sz := s.heap.size)
  generalize hAe : va_A (wX h a1 a2 a3 a4 a5 cA me tm fN fM fJ fT fC) s.heap.size = A at hD ⊢
  have hAA : ∀ q : Nat, s.heap.size ≤ q → A q := fun q h => by rw [← hAe]; exact Or.inr h
  have hS : va_S A s.heap s.heap [] := va_S.rf
  have hQ9 := hAe
  have hl := lv_entry ([.ref h, .int n]) (n := 2) (Nat.le_of_ble_eq_true rfl)
  rw [lg_entry_eq]
  generalize (lg_sl ([.ref h, .int n]) ++ List.replicate (2 - (lg_sl ([.ref h, .int n])).length) Slot.unset).toArray = ls at hl ⊢
  have hl : lv_has ls 2 [(0, .ref h), (1, .int n)] := hl
  refine lv_iload_n hx hb dX0_tick_0 rfl (lv_at hl 1 rfl) ?_
  refine lv_iconst (v := 1) hx hb dX0_tick_1 (by decide) ?_
  refine lv_icmp_lt (tgt := 22) hx hb dX0_tick_2 (by decide) (fun c2 => ?_) (fun c2 => ?_)
  · refine lv_iconst (v := -1) hx hb dX0_tick_22 (by decide) ?_
    have e1 : xTickT tm n = tm := by simp [xTickR, xTickT, xTickB, c2]
    have hP9 : va_P (dC, dI) vwCl (wX h a1 a2 a3 a4 a5 cA me (xTickT tm n) fN fM fJ fT fC) s.heap := by rw [e1]; exact hP
    have er : (-1 : Int32) = xTickR tm n := by simp [xTickR, xTickT, xTickB, c2]
    exact W.iret (v := (-1 : Int32)) hx hb hr (fun t ht hW => ⟨⟨_, (), rfl, er, by dsimp only; rw [ht]; exact hP9⟩, by rw [hQ9]; exact hS.F ht⟩) hS.2.2 dX0_tick_23
  · refine lv_iload_n hx hb dX0_tick_5 rfl (lv_at hl 1 rfl) ?_
    refine lv_bipush (v := 100) hx hb dX0_tick_6 (by decide) ?_
    refine lv_icmp_gt (tgt := 22) hx hb dX0_tick_8 (by decide) (fun c8 => ?_) (fun c8 => ?_)
    · refine lv_iconst (v := -1) hx hb dX0_tick_22 (by decide) ?_
      have e1 : xTickT tm n = tm := by simp [xTickR, xTickT, xTickB, c2, c8]
      have hP9 : va_P (dC, dI) vwCl (wX h a1 a2 a3 a4 a5 cA me (xTickT tm n) fN fM fJ fT fC) s.heap := by rw [e1]; exact hP
      have er : (-1 : Int32) = xTickR tm n := by simp [xTickR, xTickT, xTickB, c2, c8]
      exact W.iret (v := (-1 : Int32)) hx hb hr (fun t ht hW => ⟨⟨_, (), rfl, er, by dsimp only; rw [ht]; exact hP9⟩, by rw [hQ9]; exact hS.F ht⟩) hS.2.2 dX0_tick_23
    · refine lv_aload_n hx hb dX0_tick_11 rfl (lv_at hl 0 rfl) ?_
      refine va_get (D := (dC, dI)) (ci := 0) (v := .int tm) (C := RX0) (T := TX0) (N := 7) hx hb hts iwsX0_tick hown hK hP 0 rfl rfl 1 (by decide) (hts (.fieldLink RX0 38 "BranchTimes" "time" "I") (by decide +kernel)) (fun _ h9 => h9) rfl dX0_tick_12 ?_
      refine lv_iload_n hx hb dX0_tick_15 rfl (lv_at hl 1 rfl) ?_
      refine lv_iadd hx hb dX0_tick_16 ?_
      refine lv_ldc (v := 100000) hx hb hown (hts (.constant RX0 41 (100000)) (by decide +kernel)) dX0_tick_17 ?_
      refine lv_icmp_le (tgt := 24) hx hb dX0_tick_19 (by decide) (fun c19 => ?_) (fun c19 => ?_)
      · refine lv_aload_n hx hb dX0_tick_24 rfl (lv_at hl 0 rfl) ?_
        refine lv_dup hx hb dX0_tick_25 rfl ?_
        refine va_get (D := (dC, dI)) (ci := 0) (v := .int tm) (C := RX0) (T := TX0) (N := 7) hx hb hts iwsX0_tick hown hK hP 0 rfl rfl 1 (by decide) (hts (.fieldLink RX0 38 "BranchTimes" "time" "I") (by decide +kernel)) (fun _ h9 => h9) rfl dX0_tick_26 ?_
        refine lv_iload_n hx hb dX0_tick_29 rfl (lv_at hl 1 rfl) ?_
        refine lv_iadd hx hb dX0_tick_30 ?_
        refine va_put (D := (dC, dI)) (ci := 0) (v := .int (tm + n)) (ty := .int) (C := RX0) (T := TX0) (N := 7) hx hb hts iwsX0_tick tyX0 tyX0_ok nmX0 hown hK hP hD hS 0 rfl rfl 1 (by decide) (hts (.fieldLink RX0 38 "BranchTimes" "time" "I") (by decide +kernel)) (fun _ h9 => h9) rfl (by decide +kernel) rfl rfl (Nat.le_of_ble_eq_true rfl) dX0_tick_31 (fun H locs hP hD hS => ?_)
        have hP : va_P (dC, dI) vwCl (wX h a1 a2 a3 a4 a5 cA me (tm + n) fN fM fJ fT fC) H := hP
        have hD : va_D A (wX h a1 a2 a3 a4 a5 cA me (tm + n) fN fM fJ fT fC) := hD
        refine lv_aload_n hx hb dX0_tick_34 rfl (lv_at hl 0 rfl) ?_
        refine va_get (D := (dC, dI)) (ci := 0) (v := .int (tm + n)) (C := RX0) (T := TX0) (N := 7) hx hb hts iwsX0_tick hown hK hP 0 rfl rfl 1 (by decide) (hts (.fieldLink RX0 38 "BranchTimes" "time" "I") (by decide +kernel)) (fun _ h9 => h9) rfl dX0_tick_35 ?_
        have e1 : xTickT tm n = tm + n := by simp [xTickR, xTickT, xTickB, c2, c8, c19]
        have hP9 : va_P (dC, dI) vwCl (wX h a1 a2 a3 a4 a5 cA me (xTickT tm n) fN fM fJ fT fC) H := by rw [e1]; exact hP
        have er : tm + n = xTickR tm n := by simp [xTickR, xTickT, xTickB, c2, c8, c19]
        exact W.iret (v := tm + n) hx hb hr (fun t ht hW => ⟨⟨_, (), rfl, er, by dsimp only; rw [ht]; exact hP9⟩, by rw [hQ9]; exact hS.F ht⟩) hS.2.2 dX0_tick_38
      · refine lv_iconst (v := -1) hx hb dX0_tick_22 (by decide) ?_
        have e1 : xTickT tm n = tm := by simp [xTickR, xTickT, xTickB, c2, c8, c19]
        have hP9 : va_P (dC, dI) vwCl (wX h a1 a2 a3 a4 a5 cA me (xTickT tm n) fN fM fJ fT fC) s.heap := by rw [e1]; exact hP
        have er : (-1 : Int32) = xTickR tm n := by simp [xTickR, xTickT, xTickB, c2, c8, c19]
        exact W.iret (v := (-1 : Int32)) hx hb hr (fun t ht hW => ⟨⟨_, (), rfl, er, by dsimp only; rw [ht]; exact hP9⟩, by rw [hQ9]; exact hS.F ht⟩) hS.2.2 dX0_tick_23
theorem hd_X0_tick : yX0_tick.cls = RX0 ∧ yX0_tick.cls ≠ "java/lang/invoke/MethodHandle" ∧ yX0_tick.cls ≠ "java/lang/invoke/VarHandle" ∧ (parseMethodDescriptor yX0_tick.desc).map (fun d => d.parameters.length) = some 1 := by decide +kernel

theorem iwsX0_hello : ∀ w ∈ u_ws RX0 TX0 7, w ∈ wsX0_hello := fun _ h => List.mem_cons_of_mem _ (List.mem_append_right _ h)
set_option maxHeartbeats 4000000 in
set_option maxRecDepth 100000 in
theorem c_X0_hello (l : Launch) (dC : Nat → ClassId) (dI : Nat → Nat → Nat) (h a1 a2 a3 a4 a5 : Nat) (cA : ClassId) (me tm : Int32) (fN fM fJ fT fC : Nat → Int32) (n : Int32) (sz : Nat) : Met l yX0_hello wsX0_hello ({ frames := 0, cells := 0, slots := 0, locals := 0 }) (PW [.ref h, .int n] dC dI cA (wX h a1 a2 a3 a4 a5 cA me tm fN fM fJ fT fC) sz) (QWi dC dI (bI (!xHeB me n)) (wX h a1 a2 a3 a4 a5 cA me tm fN fM fJ fT fC) (wX h a1 a2 a3 a4 a5 cA me tm (xHeN me tm fN n) fM fJ fT fC) sz) 0 0 (va_A (wX h a1 a2 a3 a4 a5 cA me tm fN fM fJ fT fC) sz) := by
  refine Met.ofW (cc := cX0_hello) (maxL := 2) (ret := some .boolean) (by decide) rfl ?_
  intro p e s m args below meth c s₁ B hml hv
  obtain ⟨rfl, hsz, hP, hK, hD0⟩ := hv
  have hx := B.exec
  have hb := B.bytes
  have hr := B.returns
  have hts := atoms_spec (ws := wsX0_hello) B.pre
  have hown : s.vm.findClass RX0 = some m.cls := findClass_of_methodNamed B.named
  have hlocks := B.notSynchronized
  have S : CallFix p m c cX0_hello 2 s ([.ref h, .int n] : List Value).toArray wsX0_hello RX0 := ⟨hx, hb, hml, hown, hts⟩
  subst hsz
  have hD := hD0.self (sz := s.heap.size)
  generalize hAe : va_A (wX h a1 a2 a3 a4 a5 cA me tm fN fM fJ fT fC) s.heap.size = A at hD ⊢
  have hAA : ∀ q : Nat, s.heap.size ≤ q → A q := fun q h => by rw [← hAe]; exact Or.inr h
  have hS : va_S A s.heap s.heap [] := va_S.rf
  have hQ9 := hAe
  have hl := lv_entry ([.ref h, .int n]) (n := 2) (Nat.le_of_ble_eq_true rfl)
  rw [lg_entry_eq]
  generalize (lg_sl ([.ref h, .int n]) ++ List.replicate (2 - (lg_sl ([.ref h, .int n])).length) Slot.unset).toArray = ls at hl ⊢
  have hl : lv_has ls 2 [(0, .ref h), (1, .int n)] := hl
  refine lv_iload_n hx hb dX0_hello_0 rfl (lv_at hl 1 rfl) ?_
  refine lv_if_lt (tgt := 18) hx hb dX0_hello_1 (by decide) (fun c1 => ?_) (fun c1 => ?_)
  · refine lv_iconst (v := 0) hx hb dX0_hello_18 (by decide) ?_
    have e2 : xHeN me tm fN n = fN := by simp [xHeB, xHeN, bI, c1]
    have hP9 : va_P (dC, dI) vwCl (wX h a1 a2 a3 a4 a5 cA me tm (xHeN me tm fN n) fM fJ fT fC) s.heap := by rw [e2]; exact hP
    have er : (0 : Int32) = bI (!xHeB me n) := by simp [xHeB, xHeN, bI, c1]
    exact W.zret (v := (0 : Int32)) (ty := .boolean) hx hb hr rfl (fun t ht hW => ⟨⟨_, (), rfl, er, by dsimp only; rw [ht]; exact hP9⟩, by rw [hQ9]; exact hS.F ht⟩) hS.2.2 dX0_hello_19
  · refine lv_iload_n hx hb dX0_hello_4 rfl (lv_at hl 1 rfl) ?_
    refine lv_bipush (v := 10) hx hb dX0_hello_5 (by decide) ?_
    refine lv_icmp_ge (tgt := 18) hx hb dX0_hello_7 (by decide) (fun c7 => ?_) (fun c7 => ?_)
    · refine lv_iconst (v := 0) hx hb dX0_hello_18 (by decide) ?_
      have e2 : xHeN me tm fN n = fN := by simp [xHeB, xHeN, bI, c1, c7]
      have hP9 : va_P (dC, dI) vwCl (wX h a1 a2 a3 a4 a5 cA me tm (xHeN me tm fN n) fM fJ fT fC) s.heap := by rw [e2]; exact hP
      have er : (0 : Int32) = bI (!xHeB me n) := by simp [xHeB, xHeN, bI, c1, c7]
      exact W.zret (v := (0 : Int32)) (ty := .boolean) hx hb hr rfl (fun t ht hW => ⟨⟨_, (), rfl, er, by dsimp only; rw [ht]; exact hP9⟩, by rw [hQ9]; exact hS.F ht⟩) hS.2.2 dX0_hello_19
    · refine lv_iload_n hx hb dX0_hello_10 rfl (lv_at hl 1 rfl) ?_
      refine lv_aload_n hx hb dX0_hello_11 rfl (lv_at hl 0 rfl) ?_
      refine va_get (D := (dC, dI)) (ci := 0) (v := .int me) (C := RX0) (T := TX0) (N := 7) hx hb hts iwsX0_hello hown hK hP 0 rfl rfl 0 (by decide) (hts (.fieldLink RX0 34 "BranchTimes" "me" "I") (by decide +kernel)) (fun _ h9 => h9) rfl dX0_hello_12 ?_
      refine lv_icmp_ne (tgt := 20) hx hb dX0_hello_15 (by decide) (fun c15 => ?_) (fun c15 => ?_)
      · refine lv_aload_n hx hb dX0_hello_20 rfl (lv_at hl 0 rfl) ?_
        refine va_get (D := (dC, dI)) (ci := 0) (v := .ref a1) (C := RX0) (T := TX0) (N := 7) hx hb hts iwsX0_hello hown hK hP 0 rfl rfl 2 (by decide) (hts (.fieldLink RX0 9 "BranchTimes" "neighbourTill" "[I") (by decide +kernel)) (fun _ h9 => h9) rfl dX0_hello_21 ?_
        refine lv_iload_n hx hb dX0_hello_24 rfl (lv_at hl 1 rfl) ?_
        refine lv_aload_n hx hb dX0_hello_25 rfl (lv_at hl 0 rfl) ?_
        refine va_get (D := (dC, dI)) (ci := 0) (v := .int tm) (C := RX0) (T := TX0) (N := 7) hx hb hts iwsX0_hello hown hK hP 0 rfl rfl 1 (by decide) (hts (.fieldLink RX0 38 "BranchTimes" "time" "I") (by decide +kernel)) (fun _ h9 => h9) rfl dX0_hello_26 ?_
        refine lv_bipush (v := 65) hx hb dX0_hello_29 (by decide) ?_
        refine lv_iadd hx hb dX0_hello_31 ?_
        refine va_iast (D := (dC, dI)) hx hb hK hP hD hS 1 0 rfl rfl (He_in (me := me) (by simp [xHeB, c1, c7, c15])) dX0_hello_32 (fun H locs hP hD hS => ?_)
        have hP : va_P (dC, dI) vwCl (wX h a1 a2 a3 a4 a5 cA me tm (upd fN n.toNatClampNeg (tm + ((65 : Int32)))) fM fJ fT fC) H := hP
        have hD : va_D A (wX h a1 a2 a3 a4 a5 cA me tm (upd fN n.toNatClampNeg (tm + ((65 : Int32)))) fM fJ fT fC) := hD
        refine lv_iconst (v := 1) hx hb dX0_hello_33 (by decide) ?_
        have e2 : xHeN me tm fN n = upd fN n.toNatClampNeg (tm + ((65 : Int32))) := by simp [xHeB, xHeN, bI, c1, c7, c15]
        have hP9 : va_P (dC, dI) vwCl (wX h a1 a2 a3 a4 a5 cA me tm (xHeN me tm fN n) fM fJ fT fC) H := by rw [e2]; exact hP
        have er : (1 : Int32) = bI (!xHeB me n) := by simp [xHeB, xHeN, bI, c1, c7, c15]
        exact W.zret (v := (1 : Int32)) (ty := .boolean) hx hb hr rfl (fun t ht hW => ⟨⟨_, (), rfl, er, by dsimp only; rw [ht]; exact hP9⟩, by rw [hQ9]; exact hS.F ht⟩) hS.2.2 dX0_hello_34
      · refine lv_iconst (v := 0) hx hb dX0_hello_18 (by decide) ?_
        have e2 : xHeN me tm fN n = fN := by simp [xHeB, xHeN, bI, c1, c7, c15]
        have hP9 : va_P (dC, dI) vwCl (wX h a1 a2 a3 a4 a5 cA me tm (xHeN me tm fN n) fM fJ fT fC) s.heap := by rw [e2]; exact hP
        have er : (0 : Int32) = bI (!xHeB me n) := by simp [xHeB, xHeN, bI, c1, c7, c15]
        exact W.zret (v := (0 : Int32)) (ty := .boolean) hx hb hr rfl (fun t ht hW => ⟨⟨_, (), rfl, er, by dsimp only; rw [ht]; exact hP9⟩, by rw [hQ9]; exact hS.F ht⟩) hS.2.2 dX0_hello_19
theorem hd_X0_hello : yX0_hello.cls = RX0 ∧ yX0_hello.cls ≠ "java/lang/invoke/MethodHandle" ∧ yX0_hello.cls ≠ "java/lang/invoke/VarHandle" ∧ (parseMethodDescriptor yX0_hello.desc).map (fun d => d.parameters.length) = some 1 := by decide +kernel

theorem iwsX0_report : ∀ w ∈ u_ws RX0 TX0 7, w ∈ wsX0_report := fun _ h => List.mem_cons_of_mem _ (List.mem_append_right _ h)
set_option maxHeartbeats 4000000 in
set_option maxRecDepth 100000 in
theorem c_X0_report (l : Launch) (dC : Nat → ClassId) (dI : Nat → Nat → Nat) (h a1 a2 a3 a4 a5 : Nat) (cA : ClassId) (me tm : Int32) (fN fM fJ fT fC : Nat → Int32) (g : Int32) (sz : Nat) : Met l yX0_report wsX0_report ({ frames := 1, cells := 0, slots := 0, locals := 20 }) (PW [.ref h, .int g] dC dI cA (wX h a1 a2 a3 a4 a5 cA me tm fN fM fJ fT fC) sz) (QWi dC dI (bI (xG g)) (wX h a1 a2 a3 a4 a5 cA me tm fN fM fJ fT fC) (wX h a1 a2 a3 a4 a5 cA me tm fN (xReM tm fM g) fJ fT fC) sz) 0 0 (va_A (wX h a1 a2 a3 a4 a5 cA me tm fN fM fJ fT fC) sz) := by
  refine Met.ofW (cc := cX0_report) (maxL := 2) (ret := some .boolean) (by decide) rfl ?_
  intro p e s m args below meth c s₁ B hml hv
  obtain ⟨rfl, hsz, hP, hK, hD0⟩ := hv
  have hx := B.exec
  have hb := B.bytes
  have hr := B.returns
  have hts := atoms_spec (ws := wsX0_report) B.pre
  have hown : s.vm.findClass RX0 = some m.cls := findClass_of_methodNamed B.named
  have hlocks := B.notSynchronized
  have S : CallFix p m c cX0_report 2 s ([.ref h, .int g] : List Value).toArray wsX0_report RX0 := ⟨hx, hb, hml, hown, hts⟩
  subst hsz
  have hD := hD0.self (sz := s.heap.size)
  generalize hAe : va_A (wX h a1 a2 a3 a4 a5 cA me tm fN fM fJ fT fC) s.heap.size = A at hD ⊢
  have hAA : ∀ q : Nat, s.heap.size ≤ q → A q := fun q h => by rw [← hAe]; exact Or.inr h
  have hS : va_S A s.heap s.heap [] := va_S.rf
  have hQ9 := hAe
  have hl := lv_entry ([.ref h, .int g]) (n := 2) (Nat.le_of_ble_eq_true rfl)
  rw [lg_entry_eq]
  generalize (lg_sl ([.ref h, .int g]) ++ List.replicate (2 - (lg_sl ([.ref h, .int g])).length) Slot.unset).toArray = ls at hl ⊢
  have hl : lv_has ls 2 [(0, .ref h), (1, .int g)] := hl
  refine lv_iload_n hx hb dX0_report_0 rfl (lv_at hl 1 rfl) ?_
  refine rd_S (As := [.int g]) (rest := []) S (c_X0_isGroup l g) gX0_report_X0_isGroup rfl ⟨rfl, rfl⟩ hd_X0_isGroup ⟨Nat.le_of_ble_eq_true rfl, Nat.le_of_ble_eq_true rfl⟩ rfl hl.1 rfl (Nat.le_of_ble_eq_true rfl) dX0_report_1 ⟨Nat.le_of_ble_eq_true rfl, Nat.le_of_ble_eq_true rfl⟩ ?_
  refine lv_if_ne (tgt := 9) hx hb dX0_report_4 (by decide) (fun c4 => ?_) (fun c4 => ?_)
  · have b4 := bI_nz c4
    refine lv_aload_n hx hb dX0_report_9 rfl (lv_at hl 0 rfl) ?_
    refine va_get (D := (dC, dI)) (ci := 0) (v := .ref a2) (C := RX0) (T := TX0) (N := 7) hx hb hts iwsX0_report hown hK hP 0 rfl rfl 3 (by decide) (hts (.fieldLink RX0 13 "BranchTimes" "membersTill" "[I") (by decide +kernel)) (fun _ h9 => h9) rfl dX0_report_10 ?_
    refine lv_iload_n hx hb dX0_report_13 rfl (lv_at hl 1 rfl) ?_
    refine lv_aload_n hx hb dX0_report_14 rfl (lv_at hl 0 rfl) ?_
    refine va_get (D := (dC, dI)) (ci := 0) (v := .int tm) (C := RX0) (T := TX0) (N := 7) hx hb hts iwsX0_report hown hK hP 0 rfl rfl 1 (by decide) (hts (.fieldLink RX0 38 "BranchTimes" "time" "I") (by decide +kernel)) (fun _ h9 => h9) rfl dX0_report_15 ?_
    refine lv_bipush (v := 60) hx hb dX0_report_18 (by decide) ?_
    refine lv_iadd hx hb dX0_report_20 ?_
    refine va_iast (D := (dC, dI)) hx hb hK hP hD hS 2 0 rfl rfl (G_in b4) dX0_report_21 (fun H locs hP hD hS => ?_)
    have hP : va_P (dC, dI) vwCl (wX h a1 a2 a3 a4 a5 cA me tm fN (upd fM g.toNatClampNeg (tm + ((60 : Int32)))) fJ fT fC) H := hP
    have hD : va_D A (wX h a1 a2 a3 a4 a5 cA me tm fN (upd fM g.toNatClampNeg (tm + ((60 : Int32)))) fJ fT fC) := hD
    refine lv_iconst (v := 1) hx hb dX0_report_22 (by decide) ?_
    have e3 : xReM tm fM g = upd fM g.toNatClampNeg (tm + ((60 : Int32))) := by simp [xReM, bI, b4]
    have hP9 : va_P (dC, dI) vwCl (wX h a1 a2 a3 a4 a5 cA me tm fN (xReM tm fM g) fJ fT fC) H := by rw [e3]; exact hP
    have er : (1 : Int32) = bI (xG g) := by simp [xReM, bI, b4]
    exact W.zret (v := (1 : Int32)) (ty := .boolean) hx hb hr rfl (fun t ht hW => ⟨⟨_, (), rfl, er, by dsimp only; rw [ht]; exact hP9⟩, by rw [hQ9]; exact hS.F ht⟩) hS.2.2 dX0_report_23
  · have b4 := bI_z c4
    refine lv_iconst (v := 0) hx hb dX0_report_7 (by decide) ?_
    have e3 : xReM tm fM g = fM := by simp [xReM, bI, b4]
    have hP9 : va_P (dC, dI) vwCl (wX h a1 a2 a3 a4 a5 cA me tm fN (xReM tm fM g) fJ fT fC) s.heap := by rw [e3]; exact hP
    have er : (0 : Int32) = bI (xG g) := by simp [xReM, bI, b4]
    exact W.zret (v := (0 : Int32)) (ty := .boolean) hx hb hr rfl (fun t ht hW => ⟨⟨_, (), rfl, er, by dsimp only; rw [ht]; exact hP9⟩, by rw [hQ9]; exact hS.F ht⟩) hS.2.2 dX0_report_8
theorem hd_X0_report : yX0_report.cls = RX0 ∧ yX0_report.cls ≠ "java/lang/invoke/MethodHandle" ∧ yX0_report.cls ≠ "java/lang/invoke/VarHandle" ∧ (parseMethodDescriptor yX0_report.desc).map (fun d => d.parameters.length) = some 1 := by decide +kernel

theorem iwsX0_leave : ∀ w ∈ u_ws RX0 TX0 7, w ∈ wsX0_leave := fun _ h => List.mem_cons_of_mem _ (List.mem_append_right _ h)
set_option maxHeartbeats 4000000 in
set_option maxRecDepth 100000 in
theorem c_X0_leave (l : Launch) (dC : Nat → ClassId) (dI : Nat → Nat → Nat) (h a1 a2 a3 a4 a5 : Nat) (cA : ClassId) (me tm : Int32) (fN fM fJ fT fC : Nat → Int32) (g : Int32) (sz : Nat) : Met l yX0_leave wsX0_leave ({ frames := 3, cells := 0, slots := 0, locals := 64 }) (PW [.ref h, .int g] dC dI cA (wX h a1 a2 a3 a4 a5 cA me tm fN fM fJ fT fC) sz) (QWi dC dI (bI (xLeB me tm fN fM g)) (wX h a1 a2 a3 a4 a5 cA me tm fN fM fJ fT fC) (wX h a1 a2 a3 a4 a5 cA me tm fN (xLeM me tm fN fM g) fJ fT fC) sz) 0 0 (va_A (wX h a1 a2 a3 a4 a5 cA me tm fN fM fJ fT fC) sz) := by
  refine Met.ofW (cc := cX0_leave) (maxL := 2) (ret := some .boolean) (by decide) rfl ?_
  intro p e s m args below meth c s₁ B hml hv
  obtain ⟨rfl, hsz, hP, hK, hD0⟩ := hv
  have hx := B.exec
  have hb := B.bytes
  have hr := B.returns
  have hts := atoms_spec (ws := wsX0_leave) B.pre
  have hown : s.vm.findClass RX0 = some m.cls := findClass_of_methodNamed B.named
  have hlocks := B.notSynchronized
  have S : CallFix p m c cX0_leave 2 s ([.ref h, .int g] : List Value).toArray wsX0_leave RX0 := ⟨hx, hb, hml, hown, hts⟩
  subst hsz
  have hD := hD0.self (sz := s.heap.size)
  generalize hAe : va_A (wX h a1 a2 a3 a4 a5 cA me tm fN fM fJ fT fC) s.heap.size = A at hD ⊢
  have hAA : ∀ q : Nat, s.heap.size ≤ q → A q := fun q h => by rw [← hAe]; exact Or.inr h
  have hS : va_S A s.heap s.heap [] := va_S.rf
  have hQ9 := hAe
  have hl := lv_entry ([.ref h, .int g]) (n := 2) (Nat.le_of_ble_eq_true rfl)
  rw [lg_entry_eq]
  generalize (lg_sl ([.ref h, .int g]) ++ List.replicate (2 - (lg_sl ([.ref h, .int g])).length) Slot.unset).toArray = ls at hl ⊢
  have hl : lv_has ls 2 [(0, .ref h), (1, .int g)] := hl
  refine lv_iload_n hx hb dX0_leave_0 rfl (lv_at hl 1 rfl) ?_
  refine rd_S (As := [.int g]) (rest := []) S (c_X0_isGroup l g) gX0_leave_X0_isGroup rfl ⟨rfl, rfl⟩ hd_X0_isGroup ⟨Nat.le_of_ble_eq_true rfl, Nat.le_of_ble_eq_true rfl⟩ rfl hl.1 rfl (Nat.le_of_ble_eq_true rfl) dX0_leave_1 ⟨Nat.le_of_ble_eq_true rfl, Nat.le_of_ble_eq_true rfl⟩ ?_
  refine lv_if_eq (tgt := 27) hx hb dX0_leave_4 (by decide) (fun c4 => ?_) (fun c4 => ?_)
  · have b4 := bI_z c4
    refine lv_iconst (v := 0) hx hb dX0_leave_27 (by decide) ?_
    have e3 : xLeM me tm fN fM g = fM := by simp [xLeB, xLeM, bI, b4]
    have hP9 : va_P (dC, dI) vwCl (wX h a1 a2 a3 a4 a5 cA me tm fN (xLeM me tm fN fM g) fJ fT fC) s.heap := by rw [e3]; exact hP
    have er : (0 : Int32) = bI (xLeB me tm fN fM g) := by simp [xLeB, xLeM, bI, b4]
    exact W.zret (v := (0 : Int32)) (ty := .boolean) hx hb hr rfl (fun t ht hW => ⟨⟨_, (), rfl, er, by dsimp only; rw [ht]; exact hP9⟩, by rw [hQ9]; exact hS.F ht⟩) hS.2.2 dX0_leave_28
  · have b4 := bI_nz c4
    refine lv_aload_n hx hb dX0_leave_7 rfl (lv_at hl 0 rfl) ?_
    refine lv_aload_n hx hb dX0_leave_8 rfl (lv_at hl 0 rfl) ?_
    refine va_get (D := (dC, dI)) (ci := 0) (v := .ref a2) (C := RX0) (T := TX0) (N := 7) hx hb hts iwsX0_leave hown hK hP 0 rfl rfl 3 (by decide) (hts (.fieldLink RX0 13 "BranchTimes" "membersTill" "[I") (by decide +kernel)) (fun _ h9 => h9) rfl dX0_leave_9 ?_
    refine lv_iload_n hx hb dX0_leave_12 rfl (lv_at hl 1 rfl) ?_
    refine va_iald (D := (dC, dI)) hx hb hK hP 2 0 rfl rfl (G_in b4) dX0_leave_13 ?_
    refine rd_V (As := [.int (fM g.toNatClampNeg)]) (rest := []) (ci := 0) (qc := (RX0, TX0, 7)) S (c_X0_stands l dC dI h a1 a2 a3 a4 a5 cA me tm fN fM fJ fT fC (fM g.toNatClampNeg)) gX0_leave_X0_stands rfl ⟨rfl, rfl⟩ hd_X0_stands ⟨Nat.le_of_ble_eq_true rfl, Nat.le_of_ble_eq_true rfl⟩ hK hP rfl rfl rfl hl.1 rfl (Nat.le_of_ble_eq_true rfl) dX0_leave_14 ⟨Nat.le_of_ble_eq_true rfl, Nat.le_of_ble_eq_true rfl⟩ ?_
    refine lv_if_eq (tgt := 27) hx hb dX0_leave_17 (by decide) (fun c17 => ?_) (fun c17 => ?_)
    · have b17 := bI_z c17
      refine lv_iconst (v := 0) hx hb dX0_leave_27 (by decide) ?_
      have e3 : xLeM me tm fN fM g = fM := by simp [xLeB, xLeM, bI, b4, b17]
      have hP9 : va_P (dC, dI) vwCl (wX h a1 a2 a3 a4 a5 cA me tm fN (xLeM me tm fN fM g) fJ fT fC) s.heap := by rw [e3]; exact hP
      have er : (0 : Int32) = bI (xLeB me tm fN fM g) := by simp [xLeB, xLeM, bI, b4, b17]
      exact W.zret (v := (0 : Int32)) (ty := .boolean) hx hb hr rfl (fun t ht hW => ⟨⟨_, (), rfl, er, by dsimp only; rw [ht]; exact hP9⟩, by rw [hQ9]; exact hS.F ht⟩) hS.2.2 dX0_leave_28
    · have b17 := bI_nz c17
      refine lv_aload_n hx hb dX0_leave_20 rfl (lv_at hl 0 rfl) ?_
      refine rd_V (As := []) (rest := []) (ci := 0) (qc := (RX0, TX0, 7)) S (c_X0_isAsking l dC dI h a1 a2 a3 a4 a5 cA me tm fN fM fJ fT fC) gX0_leave_X0_isAsking rfl ⟨rfl, rfl⟩ hd_X0_isAsking ⟨Nat.le_of_ble_eq_true rfl, Nat.le_of_ble_eq_true rfl⟩ hK hP rfl rfl rfl hl.1 rfl (Nat.le_of_ble_eq_true rfl) dX0_leave_21 ⟨Nat.le_of_ble_eq_true rfl, Nat.le_of_ble_eq_true rfl⟩ ?_
      refine lv_if_ne (tgt := 29) hx hb dX0_leave_24 (by decide) (fun c24 => ?_) (fun c24 => ?_)
      · have b24 := bI_nz c24
        refine lv_aload_n hx hb dX0_leave_29 rfl (lv_at hl 0 rfl) ?_
        refine va_get (D := (dC, dI)) (ci := 0) (v := .ref a2) (C := RX0) (T := TX0) (N := 7) hx hb hts iwsX0_leave hown hK hP 0 rfl rfl 3 (by decide) (hts (.fieldLink RX0 13 "BranchTimes" "membersTill" "[I") (by decide +kernel)) (fun _ h9 => h9) rfl dX0_leave_30 ?_
        refine lv_iload_n hx hb dX0_leave_33 rfl (lv_at hl 1 rfl) ?_
        refine lv_aload_n hx hb dX0_leave_34 rfl (lv_at hl 0 rfl) ?_
        refine va_get (D := (dC, dI)) (ci := 0) (v := .ref a2) (C := RX0) (T := TX0) (N := 7) hx hb hts iwsX0_leave hown hK hP 0 rfl rfl 3 (by decide) (hts (.fieldLink RX0 13 "BranchTimes" "membersTill" "[I") (by decide +kernel)) (fun _ h9 => h9) rfl dX0_leave_35 ?_
        refine lv_iload_n hx hb dX0_leave_38 rfl (lv_at hl 1 rfl) ?_
        refine va_iald (D := (dC, dI)) hx hb hK hP 2 0 rfl rfl (G_in b4) dX0_leave_39 ?_
        refine lv_aload_n hx hb dX0_leave_40 rfl (lv_at hl 0 rfl) ?_
        refine va_get (D := (dC, dI)) (ci := 0) (v := .int tm) (C := RX0) (T := TX0) (N := 7) hx hb hts iwsX0_leave hown hK hP 0 rfl rfl 1 (by decide) (hts (.fieldLink RX0 38 "BranchTimes" "time" "I") (by decide +kernel)) (fun _ h9 => h9) rfl dX0_leave_41 ?_
        refine lv_iconst (v := 4) hx hb dX0_leave_44 (by decide) ?_
        refine lv_iadd hx hb dX0_leave_45 ?_
        refine va_mmin hx hb (by rw [hml]; exact hl.1.symm) hown (hts (.methodLink RX0 25 Lib.Math.min.name) (by decide +kernel)) (hts (.static Lib.Math.min.name) (by decide +kernel)) (hts (.initialized "java/lang/Math") (by decide +kernel)) (hts (.code Lib.Math.min.name Lib.Math.min.code 2 (some .int)) (by decide +kernel)) (Nat.le_of_ble_eq_true rfl) (Nat.le_of_ble_eq_true rfl) (Nat.le_of_ble_eq_true rfl) (Nat.le_of_ble_eq_true rfl) dX0_leave_46 ?_
        refine lv_top (x' := xMin (fM g.toNatClampNeg) (tm + ((4 : Int32)))) rfl ?_
        refine va_iast (D := (dC, dI)) hx hb hK hP hD hS 2 0 rfl rfl (G_in b4) dX0_leave_49 (fun H locs hP hD hS => ?_)
        have hP : va_P (dC, dI) vwCl (wX h a1 a2 a3 a4 a5 cA me tm fN (upd fM g.toNatClampNeg (xMin (fM g.toNatClampNeg) (tm + ((4 : Int32))))) fJ fT fC) H := hP
        have hD : va_D A (wX h a1 a2 a3 a4 a5 cA me tm fN (upd fM g.toNatClampNeg (xMin (fM g.toNatClampNeg) (tm + ((4 : Int32))))) fJ fT fC) := hD
        refine lv_iconst (v := 1) hx hb dX0_leave_50 (by decide) ?_
        have e3 : xLeM me tm fN fM g = upd fM g.toNatClampNeg (xMin (fM g.toNatClampNeg) (tm + ((4 : Int32)))) := by simp [xLeB, xLeM, bI, b4, b17, b24]
        have hP9 : va_P (dC, dI) vwCl (wX h a1 a2 a3 a4 a5 cA me tm fN (xLeM me tm fN fM g) fJ fT fC) H := by rw [e3]; exact hP
        have er : (1 : Int32) = bI (xLeB me tm fN fM g) := by simp [xLeB, xLeM, bI, b4, b17, b24]
        exact W.zret (v := (1 : Int32)) (ty := .boolean) hx hb hr rfl (fun t ht hW => ⟨⟨_, (), rfl, er, by dsimp only; rw [ht]; exact hP9⟩, by rw [hQ9]; exact hS.F ht⟩) hS.2.2 dX0_leave_51
      · have b24 := bI_z c24
        refine lv_iconst (v := 0) hx hb dX0_leave_27 (by decide) ?_
        have e3 : xLeM me tm fN fM g = fM := by simp [xLeB, xLeM, bI, b4, b17, b24]
        have hP9 : va_P (dC, dI) vwCl (wX h a1 a2 a3 a4 a5 cA me tm fN (xLeM me tm fN fM g) fJ fT fC) s.heap := by rw [e3]; exact hP
        have er : (0 : Int32) = bI (xLeB me tm fN fM g) := by simp [xLeB, xLeM, bI, b4, b17, b24]
        exact W.zret (v := (0 : Int32)) (ty := .boolean) hx hb hr rfl (fun t ht hW => ⟨⟨_, (), rfl, er, by dsimp only; rw [ht]; exact hP9⟩, by rw [hQ9]; exact hS.F ht⟩) hS.2.2 dX0_leave_28
theorem hd_X0_leave : yX0_leave.cls = RX0 ∧ yX0_leave.cls ≠ "java/lang/invoke/MethodHandle" ∧ yX0_leave.cls ≠ "java/lang/invoke/VarHandle" ∧ (parseMethodDescriptor yX0_leave.desc).map (fun d => d.parameters.length) = some 1 := by decide +kernel

theorem iwsX0_tellCuts : ∀ w ∈ u_ws RX0 TX0 7, w ∈ wsX0_tellCuts := fun _ h => List.mem_cons_of_mem _ (List.mem_append_right _ h)
set_option maxHeartbeats 4000000 in
set_option maxRecDepth 100000 in
theorem lp_X0_tellCuts_35 {p : Program} {e : Env} {s : State} {m : MethodId} {args : Array Value} {below : List Frame} {meth : Method} {c : Code} {cells slots : Nat} {Q : State → Prop} {A : Nat → Prop} {H0 : Heap} (l : Launch) (dC : Nat → ClassId) (dI : Nat → Nat → Nat) (h a1 a2 a3 a4 a5 : Nat) (cA : ClassId) (me tm : Int32) (fN fM fJ fT fC : Nat → Int32) (g fr fo y2 y3 : Int32) (hg : xG g = true) (S : CallFix p m c cX0_tellCuts 7 s args wsX0_tellCuts RX0) (hK : va_K (dC, dI) vwCl [(cA, .int)] s) (hAA : ∀ q, H0.size ≤ q → A q) (hcs : cells + 0 ≤ 0 ∧ slots + 0 ≤ 0) (k : ∀ (H : Heap) (locs : List Loc) (ls : Array Slot), va_P (dC, dI) vwCl (wX h a1 a2 a3 a4 a5 cA me tm fN fM fJ fT (xCutsI fC g fr fo 16)) H → va_D A (wX h a1 a2 a3 a4 a5 cA me tm fN fM fJ fT (xCutsI fC g fr fo 16)) → va_S A H0 H locs → lv_has ls 7 [(0, .ref h), (1, .int g), (2, .int y2), (3, .int y3), (4, .int fr), (5, .int fo), (6, .int (nI 16))] → W p l e ({ frames := 4, cells := 0, slots := 0, locals := 83 }) s m args below meth c H locs cells slots Q (F0 m 71 ls [])) : ∀ (n i : Nat), i + n = 16 → ∀ (H : Heap) (locs : List Loc) (ls : Array Slot), va_P (dC, dI) vwCl (wX h a1 a2 a3 a4 a5 cA me tm fN fM fJ fT (xCutsI fC g fr fo i)) H → va_D A (wX h a1 a2 a3 a4 a5 cA me tm fN fM fJ fT (xCutsI fC g fr fo i)) → va_S A H0 H locs → lv_has ls 7 [(0, .ref h), (1, .int g), (2, .int y2), (3, .int y3), (4, .int fr), (5, .int fo), (6, .int (nI i))] → W p l e ({ frames := 4, cells := 0, slots := 0, locals := 83 }) s m args below meth c H locs cells slots Q (F0 m 35 ls []) := by
  obtain ⟨hx, hb, hml, hown, hts⟩ := id S
  intro n
  induction n with
  | zero =>
    intro i hi H locs ls hP hD hS hl
    obtain rfl : i = 16 := by omega
    refine lv_iload hx hb dX0_tellCuts_35 (lv_at hl 6 rfl) ?_
    refine lv_bipush (v := 16) hx hb dX0_tellCuts_37 (by decide) ?_
    refine lv_icmp_ge (tgt := 71) hx hb dX0_tellCuts_39 (by decide) (fun c39 => ?_) (fun c39 => ?_)
    · exact k _ _ ls hP hD hS (lv_sub hl [0, 1, 2, 3, 4, 5, 6] rfl)
    · exact absurd c39 (by decide)
  | succ n ih =>
    intro i hi H locs ls hP hD hS hl
    have hlt : i < 16 := by omega
    have hcl : (nI i).toNatClampNeg = i := nI_clamp (by omega)
    refine lv_iload hx hb dX0_tellCuts_35 (lv_at hl 6 rfl) ?_
    refine lv_bipush (v := 16) hx hb dX0_tellCuts_37 (by decide) ?_
    refine lv_icmp_ge (tgt := 71) hx hb dX0_tellCuts_39 (by decide) (fun c39 => ?_) (fun c39 => ?_)
    · exact absurd c39 (nI_ge hlt (by decide))
    · refine lv_iload hx hb dX0_tellCuts_42 (lv_at hl 4 rfl) ?_
      refine lv_iload hx hb dX0_tellCuts_44 (lv_at hl 6 rfl) ?_
      refine rd_S (As := [.int fr, .int (nI i)]) (rest := []) S (c_X0_hasBit l fr (nI i)) gX0_tellCuts_X0_hasBit rfl ⟨rfl, rfl⟩ hd_X0_hasBit ⟨Nat.le_of_ble_eq_true rfl, Nat.le_of_ble_eq_true rfl⟩ rfl hl.1 rfl (Nat.le_of_ble_eq_true rfl) dX0_tellCuts_46 hcs ?_
      refine lv_if_eq (tgt := 65) hx hb dX0_tellCuts_49 (by decide) (fun c49 => ?_) (fun c49 => ?_)
      · have b49 := bI_z c49
        refine lv_iinc (v := nI (i + 1)) (lv' := [(6, .int (nI (i + 1))), (0, .ref h), (1, .int g), (2, .int y2), (3, .int y3), (4, .int fr), (5, .int fo)]) hx hb dX0_tellCuts_65 hl (k := 6) rfl (nI_1 _) (by decide) rfl (fun ls hl => ?_)
        refine lv_goto (tgt := 35) hx hb dX0_tellCuts_68 (by decide) ?_
        exact ih (i + 1) (by omega) _ _ ls (by rw [xCutsI_f b49]; exact hP) (by rw [xCutsI_f b49]; exact hD) hS (lv_sub hl [1, 2, 3, 4, 5, 6, 0] rfl)
      · have b49 := bI_nz c49
        refine lv_aload_n hx hb dX0_tellCuts_52 rfl (lv_at hl 0 rfl) ?_
        refine va_get (D := (dC, dI)) (ci := 0) (v := .ref a5) (C := RX0) (T := TX0) (N := 7) hx hb hts iwsX0_tellCuts hown hK hP 0 rfl rfl 6 (by decide) (hts (.fieldLink RX0 22 "BranchTimes" "cutFrom" "[I") (by decide +kernel)) (fun _ h9 => h9) rfl dX0_tellCuts_53 ?_
        refine lv_iload_n hx hb dX0_tellCuts_56 rfl (lv_at hl 1 rfl) ?_
        refine lv_iload hx hb dX0_tellCuts_57 (lv_at hl 6 rfl) ?_
        refine rd_S (As := [.int g, .int (nI i)]) (rest := [.ref a5]) S (c_X0_cutPlace l g (nI i)) gX0_tellCuts_X0_cutPlace rfl ⟨rfl, rfl⟩ hd_X0_cutPlace ⟨Nat.le_of_ble_eq_true rfl, Nat.le_of_ble_eq_true rfl⟩ rfl hl.1 rfl (Nat.le_of_ble_eq_true rfl) dX0_tellCuts_59 hcs ?_
        refine lv_iload hx hb dX0_tellCuts_62 (lv_at hl 5 rfl) ?_
        refine va_iast (D := (dC, dI)) hx hb hK hP hD hS 5 0 rfl rfl (Cp_in hg (xSrc_nI hlt)) dX0_tellCuts_64 (fun H locs hP hD hS => ?_)
        have hP : va_P (dC, dI) vwCl (wX h a1 a2 a3 a4 a5 cA me tm fN fM fJ fT (upd (xCutsI fC g fr fo i) (xCp g (nI i)).toNatClampNeg fo)) H := hP
        have hD : va_D A (wX h a1 a2 a3 a4 a5 cA me tm fN fM fJ fT (upd (xCutsI fC g fr fo i) (xCp g (nI i)).toNatClampNeg fo)) := hD
        refine lv_iinc (v := nI (i + 1)) (lv' := [(6, .int (nI (i + 1))), (0, .ref h), (1, .int g), (2, .int y2), (3, .int y3), (4, .int fr), (5, .int fo)]) hx hb dX0_tellCuts_65 hl (k := 6) rfl (nI_1 _) (by decide) rfl (fun ls hl => ?_)
        refine lv_goto (tgt := 35) hx hb dX0_tellCuts_68 (by decide) ?_
        exact ih (i + 1) (by omega) _ _ ls (by rw [xCutsI_t b49]; exact hP) (by rw [xCutsI_t b49]; exact hD) hS (lv_sub hl [1, 2, 3, 4, 5, 6, 0] rfl)
set_option maxHeartbeats 4000000 in
set_option maxRecDepth 100000 in
theorem c_X0_tellCuts (l : Launch) (dC : Nat → ClassId) (dI : Nat → Nat → Nat) (h a1 a2 a3 a4 a5 : Nat) (cA : ClassId) (me tm : Int32) (fN fM fJ fT fC : Nat → Int32) (g bits : Int32) (hg : xG g = true) (sz : Nat) : Met l yX0_tellCuts wsX0_tellCuts ({ frames := 4, cells := 0, slots := 0, locals := 83 }) (PW [.ref h, .int g, .int bits] dC dI cA (wX h a1 a2 a3 a4 a5 cA me tm fN fM fJ fT fC) sz) (QWv dC dI (wX h a1 a2 a3 a4 a5 cA me tm fN fM fJ fT fC) (wX h a1 a2 a3 a4 a5 cA me tm fN fM fJ (upd fT g.toNatClampNeg bits) (xTellC tm fN fJ fT fC g bits)) sz) 0 0 (va_A (wX h a1 a2 a3 a4 a5 cA me tm fN fM fJ fT fC) sz) := by
  refine Met.ofW (cc := cX0_tellCuts) (maxL := 7) (ret := none) (by decide) rfl ?_
  intro p e s m args below meth c s₁ B hml hv
  obtain ⟨rfl, hsz, hP, hK, hD0⟩ := hv
  have hx := B.exec
  have hb := B.bytes
  have hr := B.returns
  have hts := atoms_spec (ws := wsX0_tellCuts) B.pre
  have hown : s.vm.findClass RX0 = some m.cls := findClass_of_methodNamed B.named
  have hlocks := B.notSynchronized
  have S : CallFix p m c cX0_tellCuts 7 s ([.ref h, .int g, .int bits] : List Value).toArray wsX0_tellCuts RX0 := ⟨hx, hb, hml, hown, hts⟩
  subst hsz
  have hD := hD0.self (sz := s.heap.size)
  generalize hAe : va_A (wX h a1 a2 a3 a4 a5 cA me tm fN fM fJ fT fC) s.heap.size = A at hD ⊢
  have hAA : ∀ q : Nat, s.heap.size ≤ q → A q := fun q h => by rw [← hAe]; exact Or.inr h
  have hS : va_S A s.heap s.heap [] := va_S.rf
  have hQ9 := hAe
  have hl := lv_entry ([.ref h, .int g, .int bits]) (n := 7) (Nat.le_of_ble_eq_true rfl)
  rw [lg_entry_eq]
  generalize (lg_sl ([.ref h, .int g, .int bits]) ++ List.replicate (7 - (lg_sl ([.ref h, .int g, .int bits])).length) Slot.unset).toArray = ls at hl ⊢
  have hl : lv_has ls 7 [(0, .ref h), (1, .int g), (2, .int bits)] := hl
  refine lv_aload_n hx hb dX0_tellCuts_0 rfl (lv_at hl 0 rfl) ?_
  refine lv_iload_n hx hb dX0_tellCuts_1 rfl (lv_at hl 1 rfl) ?_
  refine rd_V (As := [.int g]) (rest := []) (ci := 0) (qc := (RX0, TX0, 7)) S (c_X0_isJoinedForStar l dC dI h a1 a2 a3 a4 a5 cA me tm fN fM fJ fT fC g hg) gX0_tellCuts_X0_isJoinedForStar rfl ⟨rfl, rfl⟩ hd_X0_isJoinedForStar ⟨Nat.le_of_ble_eq_true rfl, Nat.le_of_ble_eq_true rfl⟩ hK hP rfl rfl rfl hl.1 rfl (Nat.le_of_ble_eq_true rfl) dX0_tellCuts_2 ⟨Nat.le_of_ble_eq_true rfl, Nat.le_of_ble_eq_true rfl⟩ ?_
  refine lv_if_eq (tgt := 17) hx hb dX0_tellCuts_5 (by decide) (fun c5 => ?_) (fun c5 => ?_)
  · have b5 := bI_z c5
    refine lv_iconst (v := 0) hx hb dX0_tellCuts_17 (by decide) ?_
    refine lv_top (x' := xBefore tm fJ fT g) (by simp [xBefore, b5]) ?_
    refine lv_istore_n (lv' := [(3, .int (xBefore tm fJ fT g)), (0, .ref h), (1, .int g), (2, .int bits)]) hx hb dX0_tellCuts_18 rfl hl (by decide) rfl (fun ls hl => ?_)
    refine lv_iload_n hx hb dX0_tellCuts_19 rfl (lv_at hl 3 rfl) ?_
    refine lv_iload_n hx hb dX0_tellCuts_20 rfl (lv_at hl 0 rfl) ?_
    refine lv_iconst (v := -1) hx hb dX0_tellCuts_21 (by decide) ?_
    refine lv_ixor hx hb dX0_tellCuts_22 ?_
    refine lv_iand hx hb dX0_tellCuts_23 ?_
    refine lv_istore (lv' := [(4, .int (bits &&& ((xBefore tm fJ fT g) ^^^ ((-1 : Int32))))), (3, .int (xBefore tm fJ fT g)), (0, .ref h), (1, .int g), (2, .int bits)]) hx hb dX0_tellCuts_24 hl (by decide) rfl (fun ls hl => ?_)
    refine lv_aload_n hx hb dX0_tellCuts_26 rfl (lv_at hl 2 rfl) ?_
    refine rd_V (As := []) (rest := []) (ci := 0) (qc := (RX0, TX0, 7)) S (c_X0_timeOfEffect l dC dI h a1 a2 a3 a4 a5 cA me tm fN fM fJ fT fC) gX0_tellCuts_X0_timeOfEffect rfl ⟨rfl, rfl⟩ hd_X0_timeOfEffect ⟨Nat.le_of_ble_eq_true rfl, Nat.le_of_ble_eq_true rfl⟩ hK hP rfl rfl rfl hl.1 rfl (Nat.le_of_ble_eq_true rfl) dX0_tellCuts_27 ⟨Nat.le_of_ble_eq_true rfl, Nat.le_of_ble_eq_true rfl⟩ ?_
    refine lv_istore (lv' := [(5, .int (xEff tm (xNb tm fN))), (4, .int (bits &&& ((xBefore tm fJ fT g) ^^^ ((-1 : Int32))))), (3, .int (xBefore tm fJ fT g)), (0, .ref h), (1, .int g), (2, .int bits)]) hx hb dX0_tellCuts_30 hl (by decide) rfl (fun ls hl => ?_)
    refine lv_iconst (v := 0) hx hb dX0_tellCuts_32 (by decide) ?_
    refine lv_istore (lv' := [(6, .int ((0 : Int32))), (5, .int (xEff tm (xNb tm fN))), (4, .int (bits &&& ((xBefore tm fJ fT g) ^^^ ((-1 : Int32))))), (3, .int (xBefore tm fJ fT g)), (0, .ref h), (1, .int g), (2, .int bits)]) hx hb dX0_tellCuts_33 hl (by decide) rfl (fun ls hl => ?_)
    refine lp_X0_tellCuts_35 l dC dI h a1 a2 a3 a4 a5 cA me tm fN fM fJ fT fC g (bits &&& ((xBefore tm fJ fT g) ^^^ ((-1 : Int32)))) (xEff tm (xNb tm fN)) bits (xBefore tm fJ fT g) hg S hK hAA ⟨Nat.le_of_ble_eq_true rfl, Nat.le_of_ble_eq_true rfl⟩ (fun H locs ls hP hD hS hl => ?_) 16 0 rfl _ _ ls hP hD hS (lv_sub hl [4, 5, 6, 3, 2, 1, 0] rfl)
    refine lv_aload_n hx hb dX0_tellCuts_71 rfl (lv_at hl 0 rfl) ?_
    refine va_get (D := (dC, dI)) (ci := 0) (v := .ref a4) (C := RX0) (T := TX0) (N := 7) hx hb hts iwsX0_tellCuts hown hK hP 0 rfl rfl 5 (by decide) (hts (.fieldLink RX0 19 "BranchTimes" "told" "[I") (by decide +kernel)) (fun _ h9 => h9) rfl dX0_tellCuts_72 ?_
    refine lv_iload_n hx hb dX0_tellCuts_75 rfl (lv_at hl 1 rfl) ?_
    refine lv_iload_n hx hb dX0_tellCuts_76 rfl (lv_at hl 2 rfl) ?_
    refine va_iast (D := (dC, dI)) hx hb hK hP hD hS 4 0 rfl rfl (G_in hg) dX0_tellCuts_77 (fun H locs hP hD hS => ?_)
    have hP : va_P (dC, dI) vwCl (wX h a1 a2 a3 a4 a5 cA me tm fN fM fJ (upd fT g.toNatClampNeg bits) (xCutsI fC g (bits &&& ((xBefore tm fJ fT g) ^^^ ((-1 : Int32)))) (xEff tm (xNb tm fN)) 16)) H := hP
    have hD : va_D A (wX h a1 a2 a3 a4 a5 cA me tm fN fM fJ (upd fT g.toNatClampNeg bits) (xCutsI fC g (bits &&& ((xBefore tm fJ fT g) ^^^ ((-1 : Int32)))) (xEff tm (xNb tm fN)) 16)) := hD
    have e6 : xTellC tm fN fJ fT fC g bits = xCutsI fC g (bits &&& ((xBefore tm fJ fT g) ^^^ ((-1 : Int32)))) (xEff tm (xNb tm fN)) 16 := rfl
    have hP9 : va_P (dC, dI) vwCl (wX h a1 a2 a3 a4 a5 cA me tm fN fM fJ (upd fT g.toNatClampNeg bits) (xTellC tm fN fJ fT fC g bits)) H := by rw [e6]; exact hP
    exact W.vret hx hb hr (fun t ht hW => ⟨⟨(), rfl, trivial, by dsimp only; rw [ht]; exact hP9⟩, by rw [hQ9]; exact hS.F ht⟩) hS.2.2 dX0_tellCuts_78
  · have b5 := bI_nz c5
    refine lv_aload_n hx hb dX0_tellCuts_8 rfl (lv_at hl 0 rfl) ?_
    refine va_get (D := (dC, dI)) (ci := 0) (v := .ref a4) (C := RX0) (T := TX0) (N := 7) hx hb hts iwsX0_tellCuts hown hK hP 0 rfl rfl 5 (by decide) (hts (.fieldLink RX0 19 "BranchTimes" "told" "[I") (by decide +kernel)) (fun _ h9 => h9) rfl dX0_tellCuts_9 ?_
    refine lv_iload_n hx hb dX0_tellCuts_12 rfl (lv_at hl 1 rfl) ?_
    refine va_iald (D := (dC, dI)) hx hb hK hP 4 0 rfl rfl (G_in hg) dX0_tellCuts_13 ?_
    refine lv_goto (tgt := 18) hx hb dX0_tellCuts_14 (by decide) ?_
    refine lv_top (x' := xBefore tm fJ fT g) (by simp [xBefore, b5]) ?_
    refine lv_istore_n (lv' := [(3, .int (xBefore tm fJ fT g)), (0, .ref h), (1, .int g), (2, .int bits)]) hx hb dX0_tellCuts_18 rfl hl (by decide) rfl (fun ls hl => ?_)
    refine lv_iload_n hx hb dX0_tellCuts_19 rfl (lv_at hl 3 rfl) ?_
    refine lv_iload_n hx hb dX0_tellCuts_20 rfl (lv_at hl 0 rfl) ?_
    refine lv_iconst (v := -1) hx hb dX0_tellCuts_21 (by decide) ?_
    refine lv_ixor hx hb dX0_tellCuts_22 ?_
    refine lv_iand hx hb dX0_tellCuts_23 ?_
    refine lv_istore (lv' := [(4, .int (bits &&& ((xBefore tm fJ fT g) ^^^ ((-1 : Int32))))), (3, .int (xBefore tm fJ fT g)), (0, .ref h), (1, .int g), (2, .int bits)]) hx hb dX0_tellCuts_24 hl (by decide) rfl (fun ls hl => ?_)
    refine lv_aload_n hx hb dX0_tellCuts_26 rfl (lv_at hl 2 rfl) ?_
    refine rd_V (As := []) (rest := []) (ci := 0) (qc := (RX0, TX0, 7)) S (c_X0_timeOfEffect l dC dI h a1 a2 a3 a4 a5 cA me tm fN fM fJ fT fC) gX0_tellCuts_X0_timeOfEffect rfl ⟨rfl, rfl⟩ hd_X0_timeOfEffect ⟨Nat.le_of_ble_eq_true rfl, Nat.le_of_ble_eq_true rfl⟩ hK hP rfl rfl rfl hl.1 rfl (Nat.le_of_ble_eq_true rfl) dX0_tellCuts_27 ⟨Nat.le_of_ble_eq_true rfl, Nat.le_of_ble_eq_true rfl⟩ ?_
    refine lv_istore (lv' := [(5, .int (xEff tm (xNb tm fN))), (4, .int (bits &&& ((xBefore tm fJ fT g) ^^^ ((-1 : Int32))))), (3, .int (xBefore tm fJ fT g)), (0, .ref h), (1, .int g), (2, .int bits)]) hx hb dX0_tellCuts_30 hl (by decide) rfl (fun ls hl => ?_)
    refine lv_iconst (v := 0) hx hb dX0_tellCuts_32 (by decide) ?_
    refine lv_istore (lv' := [(6, .int ((0 : Int32))), (5, .int (xEff tm (xNb tm fN))), (4, .int (bits &&& ((xBefore tm fJ fT g) ^^^ ((-1 : Int32))))), (3, .int (xBefore tm fJ fT g)), (0, .ref h), (1, .int g), (2, .int bits)]) hx hb dX0_tellCuts_33 hl (by decide) rfl (fun ls hl => ?_)
    refine lp_X0_tellCuts_35 l dC dI h a1 a2 a3 a4 a5 cA me tm fN fM fJ fT fC g (bits &&& ((xBefore tm fJ fT g) ^^^ ((-1 : Int32)))) (xEff tm (xNb tm fN)) bits (xBefore tm fJ fT g) hg S hK hAA ⟨Nat.le_of_ble_eq_true rfl, Nat.le_of_ble_eq_true rfl⟩ (fun H locs ls hP hD hS hl => ?_) 16 0 rfl _ _ ls hP hD hS (lv_sub hl [4, 5, 6, 3, 2, 1, 0] rfl)
    refine lv_aload_n hx hb dX0_tellCuts_71 rfl (lv_at hl 0 rfl) ?_
    refine va_get (D := (dC, dI)) (ci := 0) (v := .ref a4) (C := RX0) (T := TX0) (N := 7) hx hb hts iwsX0_tellCuts hown hK hP 0 rfl rfl 5 (by decide) (hts (.fieldLink RX0 19 "BranchTimes" "told" "[I") (by decide +kernel)) (fun _ h9 => h9) rfl dX0_tellCuts_72 ?_
    refine lv_iload_n hx hb dX0_tellCuts_75 rfl (lv_at hl 1 rfl) ?_
    refine lv_iload_n hx hb dX0_tellCuts_76 rfl (lv_at hl 2 rfl) ?_
    refine va_iast (D := (dC, dI)) hx hb hK hP hD hS 4 0 rfl rfl (G_in hg) dX0_tellCuts_77 (fun H locs hP hD hS => ?_)
    have hP : va_P (dC, dI) vwCl (wX h a1 a2 a3 a4 a5 cA me tm fN fM fJ (upd fT g.toNatClampNeg bits) (xCutsI fC g (bits &&& ((xBefore tm fJ fT g) ^^^ ((-1 : Int32)))) (xEff tm (xNb tm fN)) 16)) H := hP
    have hD : va_D A (wX h a1 a2 a3 a4 a5 cA me tm fN fM fJ (upd fT g.toNatClampNeg bits) (xCutsI fC g (bits &&& ((xBefore tm fJ fT g) ^^^ ((-1 : Int32)))) (xEff tm (xNb tm fN)) 16)) := hD
    have e6 : xTellC tm fN fJ fT fC g bits = xCutsI fC g (bits &&& ((xBefore tm fJ fT g) ^^^ ((-1 : Int32)))) (xEff tm (xNb tm fN)) 16 := rfl
    have hP9 : va_P (dC, dI) vwCl (wX h a1 a2 a3 a4 a5 cA me tm fN fM fJ (upd fT g.toNatClampNeg bits) (xTellC tm fN fJ fT fC g bits)) H := by rw [e6]; exact hP
    exact W.vret hx hb hr (fun t ht hW => ⟨⟨(), rfl, trivial, by dsimp only; rw [ht]; exact hP9⟩, by rw [hQ9]; exact hS.F ht⟩) hS.2.2 dX0_tellCuts_78
theorem hd_X0_tellCuts : yX0_tellCuts.cls = RX0 ∧ yX0_tellCuts.cls ≠ "java/lang/invoke/MethodHandle" ∧ yX0_tellCuts.cls ≠ "java/lang/invoke/VarHandle" ∧ (parseMethodDescriptor yX0_tellCuts.desc).map (fun d => d.parameters.length) = some 2 := by decide +kernel

theorem iwsX0_join : ∀ w ∈ u_ws RX0 TX0 7, w ∈ wsX0_join := fun _ h => List.mem_cons_of_mem _ (List.mem_append_right _ h)
set_option maxHeartbeats 4000000 in
set_option maxRecDepth 100000 in
theorem c_X0_join (l : Launch) (dC : Nat → ClassId) (dI : Nat → Nat → Nat) (h a1 a2 a3 a4 a5 : Nat) (cA : ClassId) (me tm : Int32) (fN fM fJ fT fC : Nat → Int32) (g q bits : Int32) (sz : Nat) : Met l yX0_join wsX0_join ({ frames := 5, cells := 0, slots := 0, locals := 109 }) (PW [.ref h, .int g, .int q, .int bits] dC dI cA (wX h a1 a2 a3 a4 a5 cA me tm fN fM fJ fT fC) sz) (QWi dC dI (bI (xJoB g q)) (wX h a1 a2 a3 a4 a5 cA me tm fN fM fJ fT fC) (wX h a1 a2 a3 a4 a5 cA me tm fN fM (xJoJ tm fJ g q) (xJoT fT g q bits) (xJoC tm fN fJ fT fC g q bits)) sz) 0 0 (va_A (wX h a1 a2 a3 a4 a5 cA me tm fN fM fJ fT fC) sz) := by
  refine Met.ofW (cc := cX0_join) (maxL := 4) (ret := some .boolean) (by decide) rfl ?_
  intro p e s m args below meth c s₁ B hml hv
  obtain ⟨rfl, hsz, hP, hK, hD0⟩ := hv
  have hx := B.exec
  have hb := B.bytes
  have hr := B.returns
  have hts := atoms_spec (ws := wsX0_join) B.pre
  have hown : s.vm.findClass RX0 = some m.cls := findClass_of_methodNamed B.named
  have hlocks := B.notSynchronized
  have S : CallFix p m c cX0_join 4 s ([.ref h, .int g, .int q, .int bits] : List Value).toArray wsX0_join RX0 := ⟨hx, hb, hml, hown, hts⟩
  subst hsz
  have hD := hD0.self (sz := s.heap.size)
  generalize hAe : va_A (wX h a1 a2 a3 a4 a5 cA me tm fN fM fJ fT fC) s.heap.size = A at hD ⊢
  have hAA : ∀ q : Nat, s.heap.size ≤ q → A q := fun q h => by rw [← hAe]; exact Or.inr h
  have hS : va_S A s.heap s.heap [] := va_S.rf
  have hQ9 := hAe
  have hl := lv_entry ([.ref h, .int g, .int q, .int bits]) (n := 4) (Nat.le_of_ble_eq_true rfl)
  rw [lg_entry_eq]
  generalize (lg_sl ([.ref h, .int g, .int q, .int bits]) ++ List.replicate (4 - (lg_sl ([.ref h, .int g, .int q, .int bits])).length) Slot.unset).toArray = ls at hl ⊢
  have hl : lv_has ls 4 [(0, .ref h), (1, .int g), (2, .int q), (3, .int bits)] := hl
  refine lv_iload_n hx hb dX0_join_0 rfl (lv_at hl 1 rfl) ?_
  refine rd_S (As := [.int g]) (rest := []) S (c_X0_isGroup l g) gX0_join_X0_isGroup rfl ⟨rfl, rfl⟩ hd_X0_isGroup ⟨Nat.le_of_ble_eq_true rfl, Nat.le_of_ble_eq_true rfl⟩ rfl hl.1 rfl (Nat.le_of_ble_eq_true rfl) dX0_join_1 ⟨Nat.le_of_ble_eq_true rfl, Nat.le_of_ble_eq_true rfl⟩ ?_
  refine lv_if_eq (tgt := 14) hx hb dX0_join_4 (by decide) (fun c4 => ?_) (fun c4 => ?_)
  · have b4 := bI_z c4
    refine lv_iconst (v := 0) hx hb dX0_join_14 (by decide) ?_
    have e4 : xJoJ tm fJ g q = fJ := by simp [xJoB, xJoJ, xJoT, xJoC, xJoS, bI, xBr_m1, b4]
    have e5 : xJoT fT g q bits = fT := by simp [xJoB, xJoJ, xJoT, xJoC, xJoS, bI, xBr_m1, b4]
    have e6 : xJoC tm fN fJ fT fC g q bits = fC := by simp [xJoB, xJoJ, xJoT, xJoC, xJoS, bI, xBr_m1, b4]
    have hP9 : va_P (dC, dI) vwCl (wX h a1 a2 a3 a4 a5 cA me tm fN fM (xJoJ tm fJ g q) (xJoT fT g q bits) (xJoC tm fN fJ fT fC g q bits)) s.heap := by rw [e4, e5, e6]; exact hP
    have er : (0 : Int32) = bI (xJoB g q) := by simp [xJoB, xJoJ, xJoT, xJoC, xJoS, bI, xBr_m1, b4]
    exact W.zret (v := (0 : Int32)) (ty := .boolean) hx hb hr rfl (fun t ht hW => ⟨⟨_, (), rfl, er, by dsimp only; rw [ht]; exact hP9⟩, by rw [hQ9]; exact hS.F ht⟩) hS.2.2 dX0_join_15
  · have b4 := bI_nz c4
    refine lv_iload_n hx hb dX0_join_7 rfl (lv_at hl 2 rfl) ?_
    refine rd_S (As := [.int q]) (rest := []) S (c_X0_isBranch l q) gX0_join_X0_isBranch rfl ⟨rfl, rfl⟩ hd_X0_isBranch ⟨Nat.le_of_ble_eq_true rfl, Nat.le_of_ble_eq_true rfl⟩ rfl hl.1 rfl (Nat.le_of_ble_eq_true rfl) dX0_join_8 ⟨Nat.le_of_ble_eq_true rfl, Nat.le_of_ble_eq_true rfl⟩ ?_
    refine lv_if_ne (tgt := 16) hx hb dX0_join_11 (by decide) (fun c11 => ?_) (fun c11 => ?_)
    · have b11 := bI_nz c11
      refine lv_iload_n hx hb dX0_join_16 rfl (lv_at hl 2 rfl) ?_
      refine lv_iconst (v := -1) hx hb dX0_join_17 (by decide) ?_
      refine lv_icmp_ne (tgt := 30) hx hb dX0_join_18 (by decide) (fun c18 => ?_) (fun c18 => ?_)
      · refine lv_aload_n hx hb dX0_join_30 rfl (lv_at hl 0 rfl) ?_
        refine va_get (D := (dC, dI)) (ci := 0) (v := .ref a3) (C := RX0) (T := TX0) (N := 7) hx hb hts iwsX0_join hown hK hP 0 rfl rfl 4 (by decide) (hts (.fieldLink RX0 16 "BranchTimes" "joinedTill" "[I") (by decide +kernel)) (fun _ h9 => h9) rfl dX0_join_31 ?_
        refine lv_iload_n hx hb dX0_join_34 rfl (lv_at hl 1 rfl) ?_
        refine lv_iload_n hx hb dX0_join_35 rfl (lv_at hl 2 rfl) ?_
        refine rd_S (As := [.int g, .int q]) (rest := [.ref a3]) S (c_X0_branchPlace l g q) gX0_join_X0_branchPlace rfl ⟨rfl, rfl⟩ hd_X0_branchPlace ⟨Nat.le_of_ble_eq_true rfl, Nat.le_of_ble_eq_true rfl⟩ rfl hl.1 rfl (Nat.le_of_ble_eq_true rfl) dX0_join_36 ⟨Nat.le_of_ble_eq_true rfl, Nat.le_of_ble_eq_true rfl⟩ ?_
        refine lv_aload_n hx hb dX0_join_39 rfl (lv_at hl 0 rfl) ?_
        refine va_get (D := (dC, dI)) (ci := 0) (v := .int tm) (C := RX0) (T := TX0) (N := 7) hx hb hts iwsX0_join hown hK hP 0 rfl rfl 1 (by decide) (hts (.fieldLink RX0 38 "BranchTimes" "time" "I") (by decide +kernel)) (fun _ h9 => h9) rfl dX0_join_40 ?_
        refine lv_bipush (v := 70) hx hb dX0_join_43 (by decide) ?_
        refine lv_iadd hx hb dX0_join_45 ?_
        refine va_iast (D := (dC, dI)) hx hb hK hP hD hS 3 0 rfl rfl (Pl_in b4 b11) dX0_join_46 (fun H locs hP hD hS => ?_)
        have hP : va_P (dC, dI) vwCl (wX h a1 a2 a3 a4 a5 cA me tm fN fM (upd fJ (xPl g q).toNatClampNeg (tm + ((70 : Int32)))) fT fC) H := hP
        have hD : va_D A (wX h a1 a2 a3 a4 a5 cA me tm fN fM (upd fJ (xPl g q).toNatClampNeg (tm + ((70 : Int32)))) fT fC) := hD
        refine lv_iconst (v := 1) hx hb dX0_join_47 (by decide) ?_
        have e4 : xJoJ tm fJ g q = upd fJ (xPl g q).toNatClampNeg (tm + ((70 : Int32))) := by simp [xJoB, xJoJ, xJoT, xJoC, xJoS, bI, xBr_m1, b4, b11, c18]
        have e5 : xJoT fT g q bits = fT := by simp [xJoB, xJoJ, xJoT, xJoC, xJoS, bI, xBr_m1, b4, b11, c18]
        have e6 : xJoC tm fN fJ fT fC g q bits = fC := by simp [xJoB, xJoJ, xJoT, xJoC, xJoS, bI, xBr_m1, b4, b11, c18]
        have hP9 : va_P (dC, dI) vwCl (wX h a1 a2 a3 a4 a5 cA me tm fN fM (xJoJ tm fJ g q) (xJoT fT g q bits) (xJoC tm fN fJ fT fC g q bits)) H := by rw [e4, e5, e6]; exact hP
        have er : (1 : Int32) = bI (xJoB g q) := by simp [xJoB, xJoJ, xJoT, xJoC, xJoS, bI, xBr_m1, b4, b11, c18]
        exact W.zret (v := (1 : Int32)) (ty := .boolean) hx hb hr rfl (fun t ht hW => ⟨⟨_, (), rfl, er, by dsimp only; rw [ht]; exact hP9⟩, by rw [hQ9]; exact hS.F ht⟩) hS.2.2 dX0_join_48
      · refine lv_aload_n hx hb dX0_join_21 rfl (lv_at hl 0 rfl) ?_
        refine lv_iload_n hx hb dX0_join_22 rfl (lv_at hl 1 rfl) ?_
        refine lv_iload_n hx hb dX0_join_23 rfl (lv_at hl 3 rfl) ?_
        refine lv_ldc (v := 65535) hx hb hown (hts (.constant RX0 56 (65535)) (by decide +kernel)) dX0_join_24 ?_
        refine lv_iand hx hb dX0_join_26 ?_
        refine wr_Vv (As := [.int g, .int (bits &&& ((65535 : Int32)))]) (rest := []) (ci := 0) (qc := (RX0, TX0, 7)) (wr := []) (A0 := A) S (c_X0_tellCuts l dC dI h a1 a2 a3 a4 a5 cA me tm fN fM fJ fT fC g (bits &&& ((65535 : Int32))) b4 _) gX0_join_X0_tellCuts rfl ⟨rfl, rfl⟩ hd_X0_tellCuts ⟨Nat.le_of_ble_eq_true rfl, Nat.le_of_ble_eq_true rfl⟩ hK hP hD hS hAA [0, 1, 2, 3, 4, 5] [] rfl rfl (by decide) (by decide) (by decide) rfl rfl rfl rfl hl.1 rfl (Nat.le_of_ble_eq_true rfl) dX0_join_27 ⟨Nat.le_of_ble_eq_true rfl, Nat.le_of_ble_eq_true rfl⟩ (fun H locs hP hD hS => ?_)
        have hP : va_P (dC, dI) vwCl (wX h a1 a2 a3 a4 a5 cA me tm fN fM fJ (upd fT g.toNatClampNeg (bits &&& ((65535 : Int32)))) (xTellC tm fN fJ fT fC g (bits &&& ((65535 : Int32))))) H := hP
        have hD : va_D A (wX h a1 a2 a3 a4 a5 cA me tm fN fM fJ (upd fT g.toNatClampNeg (bits &&& ((65535 : Int32)))) (xTellC tm fN fJ fT fC g (bits &&& ((65535 : Int32))))) := hD
        refine lv_aload_n hx hb dX0_join_30 rfl (lv_at hl 0 rfl) ?_
        refine va_get (D := (dC, dI)) (ci := 0) (v := .ref a3) (C := RX0) (T := TX0) (N := 7) hx hb hts iwsX0_join hown hK hP 0 rfl rfl 4 (by decide) (hts (.fieldLink RX0 16 "BranchTimes" "joinedTill" "[I") (by decide +kernel)) (fun _ h9 => h9) rfl dX0_join_31 ?_
        refine lv_iload_n hx hb dX0_join_34 rfl (lv_at hl 1 rfl) ?_
        refine lv_iload_n hx hb dX0_join_35 rfl (lv_at hl 2 rfl) ?_
        refine rd_S (As := [.int g, .int q]) (rest := [.ref a3]) S (c_X0_branchPlace l g q) gX0_join_X0_branchPlace rfl ⟨rfl, rfl⟩ hd_X0_branchPlace ⟨Nat.le_of_ble_eq_true rfl, Nat.le_of_ble_eq_true rfl⟩ rfl hl.1 rfl (Nat.le_of_ble_eq_true rfl) dX0_join_36 ⟨Nat.le_of_ble_eq_true rfl, Nat.le_of_ble_eq_true rfl⟩ ?_
        refine lv_aload_n hx hb dX0_join_39 rfl (lv_at hl 0 rfl) ?_
        refine va_get (D := (dC, dI)) (ci := 0) (v := .int tm) (C := RX0) (T := TX0) (N := 7) hx hb hts iwsX0_join hown hK hP 0 rfl rfl 1 (by decide) (hts (.fieldLink RX0 38 "BranchTimes" "time" "I") (by decide +kernel)) (fun _ h9 => h9) rfl dX0_join_40 ?_
        refine lv_bipush (v := 70) hx hb dX0_join_43 (by decide) ?_
        refine lv_iadd hx hb dX0_join_45 ?_
        refine va_iast (D := (dC, dI)) hx hb hK hP hD hS 3 0 rfl rfl (Pl_in b4 b11) dX0_join_46 (fun H locs hP hD hS => ?_)
        have hP : va_P (dC, dI) vwCl (wX h a1 a2 a3 a4 a5 cA me tm fN fM (upd fJ (xPl g q).toNatClampNeg (tm + ((70 : Int32)))) (upd fT g.toNatClampNeg (bits &&& ((65535 : Int32)))) (xTellC tm fN fJ fT fC g (bits &&& ((65535 : Int32))))) H := hP
        have hD : va_D A (wX h a1 a2 a3 a4 a5 cA me tm fN fM (upd fJ (xPl g q).toNatClampNeg (tm + ((70 : Int32)))) (upd fT g.toNatClampNeg (bits &&& ((65535 : Int32)))) (xTellC tm fN fJ fT fC g (bits &&& ((65535 : Int32))))) := hD
        refine lv_iconst (v := 1) hx hb dX0_join_47 (by decide) ?_
        have e4 : xJoJ tm fJ g q = upd fJ (xPl g q).toNatClampNeg (tm + ((70 : Int32))) := by simp [xJoB, xJoJ, xJoT, xJoC, xJoS, bI, xBr_m1, b4, b11, c18]
        have e5 : xJoT fT g q bits = upd fT g.toNatClampNeg (bits &&& ((65535 : Int32))) := by simp [xJoB, xJoJ, xJoT, xJoC, xJoS, bI, xBr_m1, b4, b11, c18]
        have e6 : xJoC tm fN fJ fT fC g q bits = xTellC tm fN fJ fT fC g (bits &&& ((65535 : Int32))) := by simp [xJoB, xJoJ, xJoT, xJoC, xJoS, bI, xBr_m1, b4, b11, c18]
        have hP9 : va_P (dC, dI) vwCl (wX h a1 a2 a3 a4 a5 cA me tm fN fM (xJoJ tm fJ g q) (xJoT fT g q bits) (xJoC tm fN fJ fT fC g q bits)) H := by rw [e4, e5, e6]; exact hP
        have er : (1 : Int32) = bI (xJoB g q) := by simp [xJoB, xJoJ, xJoT, xJoC, xJoS, bI, xBr_m1, b4, b11, c18]
        exact W.zret (v := (1 : Int32)) (ty := .boolean) hx hb hr rfl (fun t ht hW => ⟨⟨_, (), rfl, er, by dsimp only; rw [ht]; exact hP9⟩, by rw [hQ9]; exact hS.F ht⟩) hS.2.2 dX0_join_48
    · have b11 := bI_z c11
      refine lv_iconst (v := 0) hx hb dX0_join_14 (by decide) ?_
      have e4 : xJoJ tm fJ g q = fJ := by simp [xJoB, xJoJ, xJoT, xJoC, xJoS, bI, xBr_m1, b4, b11]
      have e5 : xJoT fT g q bits = fT := by simp [xJoB, xJoJ, xJoT, xJoC, xJoS, bI, xBr_m1, b4, b11]
      have e6 : xJoC tm fN fJ fT fC g q bits = fC := by simp [xJoB, xJoJ, xJoT, xJoC, xJoS, bI, xBr_m1, b4, b11]
      have hP9 : va_P (dC, dI) vwCl (wX h a1 a2 a3 a4 a5 cA me tm fN fM (xJoJ tm fJ g q) (xJoT fT g q bits) (xJoC tm fN fJ fT fC g q bits)) s.heap := by rw [e4, e5, e6]; exact hP
      have er : (0 : Int32) = bI (xJoB g q) := by simp [xJoB, xJoJ, xJoT, xJoC, xJoS, bI, xBr_m1, b4, b11]
      exact W.zret (v := (0 : Int32)) (ty := .boolean) hx hb hr rfl (fun t ht hW => ⟨⟨_, (), rfl, er, by dsimp only; rw [ht]; exact hP9⟩, by rw [hQ9]; exact hS.F ht⟩) hS.2.2 dX0_join_15
theorem hd_X0_join : yX0_join.cls = RX0 ∧ yX0_join.cls ≠ "java/lang/invoke/MethodHandle" ∧ yX0_join.cls ≠ "java/lang/invoke/VarHandle" ∧ (parseMethodDescriptor yX0_join.desc).map (fun d => d.parameters.length) = some 3 := by decide +kernel

theorem iwsX0_prune : ∀ w ∈ u_ws RX0 TX0 7, w ∈ wsX0_prune := fun _ h => List.mem_cons_of_mem _ (List.mem_append_right _ h)
set_option maxHeartbeats 4000000 in
set_option maxRecDepth 100000 in
theorem c_X0_prune (l : Launch) (dC : Nat → ClassId) (dI : Nat → Nat → Nat) (h a1 a2 a3 a4 a5 : Nat) (cA : ClassId) (me tm : Int32) (fN fM fJ fT fC : Nat → Int32) (g q : Int32) (sz : Nat) : Met l yX0_prune wsX0_prune ({ frames := 4, cells := 0, slots := 0, locals := 83 }) (PW [.ref h, .int g, .int q] dC dI cA (wX h a1 a2 a3 a4 a5 cA me tm fN fM fJ fT fC) sz) (QWi dC dI (bI (xPrB tm fJ g q)) (wX h a1 a2 a3 a4 a5 cA me tm fN fM fJ fT fC) (wX h a1 a2 a3 a4 a5 cA me tm fN fM (xPrJ tm fN fJ g q) fT fC) sz) 0 0 (va_A (wX h a1 a2 a3 a4 a5 cA me tm fN fM fJ fT fC) sz) := by
  refine Met.ofW (cc := cX0_prune) (maxL := 4) (ret := some .boolean) (by decide) rfl ?_
  intro p e s m args below meth c s₁ B hml hv
  obtain ⟨rfl, hsz, hP, hK, hD0⟩ := hv
  have hx := B.exec
  have hb := B.bytes
  have hr := B.returns
  have hts := atoms_spec (ws := wsX0_prune) B.pre
  have hown : s.vm.findClass RX0 = some m.cls := findClass_of_methodNamed B.named
  have hlocks := B.notSynchronized
  have S : CallFix p m c cX0_prune 4 s ([.ref h, .int g, .int q] : List Value).toArray wsX0_prune RX0 := ⟨hx, hb, hml, hown, hts⟩
  subst hsz
  have hD := hD0.self (sz := s.heap.size)
  generalize hAe : va_A (wX h a1 a2 a3 a4 a5 cA me tm fN fM fJ fT fC) s.heap.size = A at hD ⊢
  have hAA : ∀ q : Nat, s.heap.size ≤ q → A q := fun q h => by rw [← hAe]; exact Or.inr h
  have hS : va_S A s.heap s.heap [] := va_S.rf
  have hQ9 := hAe
  have hl := lv_entry ([.ref h, .int g, .int q]) (n := 4) (Nat.le_of_ble_eq_true rfl)
  rw [lg_entry_eq]
  generalize (lg_sl ([.ref h, .int g, .int q]) ++ List.replicate (4 - (lg_sl ([.ref h, .int g, .int q])).length) Slot.unset).toArray = ls at hl ⊢
  have hl : lv_has ls 4 [(0, .ref h), (1, .int g), (2, .int q)] := hl
  refine lv_iload_n hx hb dX0_prune_0 rfl (lv_at hl 1 rfl) ?_
  refine rd_S (As := [.int g]) (rest := []) S (c_X0_isGroup l g) gX0_prune_X0_isGroup rfl ⟨rfl, rfl⟩ hd_X0_isGroup ⟨Nat.le_of_ble_eq_true rfl, Nat.le_of_ble_eq_true rfl⟩ rfl hl.1 rfl (Nat.le_of_ble_eq_true rfl) dX0_prune_1 ⟨Nat.le_of_ble_eq_true rfl, Nat.le_of_ble_eq_true rfl⟩ ?_
  refine lv_if_eq (tgt := 14) hx hb dX0_prune_4 (by decide) (fun c4 => ?_) (fun c4 => ?_)
  · have b4 := bI_z c4
    refine lv_iconst (v := 0) hx hb dX0_prune_14 (by decide) ?_
    have e4 : xPrJ tm fN fJ g q = fJ := by simp [xPrB, xPrJ, xJoB, bI, b4]
    have hP9 : va_P (dC, dI) vwCl (wX h a1 a2 a3 a4 a5 cA me tm fN fM (xPrJ tm fN fJ g q) fT fC) s.heap := by rw [e4]; exact hP
    have er : (0 : Int32) = bI (xPrB tm fJ g q) := by simp [xPrB, xPrJ, xJoB, bI, b4]
    exact W.zret (v := (0 : Int32)) (ty := .boolean) hx hb hr rfl (fun t ht hW => ⟨⟨_, (), rfl, er, by dsimp only; rw [ht]; exact hP9⟩, by rw [hQ9]; exact hS.F ht⟩) hS.2.2 dX0_prune_15
  · have b4 := bI_nz c4
    refine lv_iload_n hx hb dX0_prune_7 rfl (lv_at hl 2 rfl) ?_
    refine rd_S (As := [.int q]) (rest := []) S (c_X0_isBranch l q) gX0_prune_X0_isBranch rfl ⟨rfl, rfl⟩ hd_X0_isBranch ⟨Nat.le_of_ble_eq_true rfl, Nat.le_of_ble_eq_true rfl⟩ rfl hl.1 rfl (Nat.le_of_ble_eq_true rfl) dX0_prune_8 ⟨Nat.le_of_ble_eq_true rfl, Nat.le_of_ble_eq_true rfl⟩ ?_
    refine lv_if_ne (tgt := 16) hx hb dX0_prune_11 (by decide) (fun c11 => ?_) (fun c11 => ?_)
    · have b11 := bI_nz c11
      refine lv_iload_n hx hb dX0_prune_16 rfl (lv_at hl 1 rfl) ?_
      refine lv_iload_n hx hb dX0_prune_17 rfl (lv_at hl 2 rfl) ?_
      refine rd_S (As := [.int g, .int q]) (rest := []) S (c_X0_branchPlace l g q) gX0_prune_X0_branchPlace rfl ⟨rfl, rfl⟩ hd_X0_branchPlace ⟨Nat.le_of_ble_eq_true rfl, Nat.le_of_ble_eq_true rfl⟩ rfl hl.1 rfl (Nat.le_of_ble_eq_true rfl) dX0_prune_18 ⟨Nat.le_of_ble_eq_true rfl, Nat.le_of_ble_eq_true rfl⟩ ?_
      refine lv_istore_n (lv' := [(3, .int (xPl g q)), (0, .ref h), (1, .int g), (2, .int q)]) hx hb dX0_prune_21 rfl hl (by decide) rfl (fun ls hl => ?_)
      refine lv_aload_n hx hb dX0_prune_22 rfl (lv_at hl 1 rfl) ?_
      refine lv_aload_n hx hb dX0_prune_23 rfl (lv_at hl 1 rfl) ?_
      refine va_get (D := (dC, dI)) (ci := 0) (v := .ref a3) (C := RX0) (T := TX0) (N := 7) hx hb hts iwsX0_prune hown hK hP 0 rfl rfl 4 (by decide) (hts (.fieldLink RX0 16 "BranchTimes" "joinedTill" "[I") (by decide +kernel)) (fun _ h9 => h9) rfl dX0_prune_24 ?_
      refine lv_iload_n hx hb dX0_prune_27 rfl (lv_at hl 0 rfl) ?_
      refine va_iald (D := (dC, dI)) hx hb hK hP 3 0 rfl rfl (Pl_in b4 b11) dX0_prune_28 ?_
      refine rd_V (As := [.int (fJ (xPl g q).toNatClampNeg)]) (rest := []) (ci := 0) (qc := (RX0, TX0, 7)) S (c_X0_stands l dC dI h a1 a2 a3 a4 a5 cA me tm fN fM fJ fT fC (fJ (xPl g q).toNatClampNeg)) gX0_prune_X0_stands rfl ⟨rfl, rfl⟩ hd_X0_stands ⟨Nat.le_of_ble_eq_true rfl, Nat.le_of_ble_eq_true rfl⟩ hK hP rfl rfl rfl hl.1 rfl (Nat.le_of_ble_eq_true rfl) dX0_prune_29 ⟨Nat.le_of_ble_eq_true rfl, Nat.le_of_ble_eq_true rfl⟩ ?_
      refine lv_if_ne (tgt := 37) hx hb dX0_prune_32 (by decide) (fun c32 => ?_) (fun c32 => ?_)
      · have b32 := bI_nz c32
        refine lv_aload_n hx hb dX0_prune_37 rfl (lv_at hl 1 rfl) ?_
        refine va_get (D := (dC, dI)) (ci := 0) (v := .ref a3) (C := RX0) (T := TX0) (N := 7) hx hb hts iwsX0_prune hown hK hP 0 rfl rfl 4 (by decide) (hts (.fieldLink RX0 16 "BranchTimes" "joinedTill" "[I") (by decide +kernel)) (fun _ h9 => h9) rfl dX0_prune_38 ?_
        refine lv_iload_n hx hb dX0_prune_41 rfl (lv_at hl 0 rfl) ?_
        refine lv_aload_n hx hb dX0_prune_42 rfl (lv_at hl 1 rfl) ?_
        refine va_get (D := (dC, dI)) (ci := 0) (v := .ref a3) (C := RX0) (T := TX0) (N := 7) hx hb hts iwsX0_prune hown hK hP 0 rfl rfl 4 (by decide) (hts (.fieldLink RX0 16 "BranchTimes" "joinedTill" "[I") (by decide +kernel)) (fun _ h9 => h9) rfl dX0_prune_43 ?_
        refine lv_iload_n hx hb dX0_prune_46 rfl (lv_at hl 0 rfl) ?_
        refine va_iald (D := (dC, dI)) hx hb hK hP 3 0 rfl rfl (Pl_in b4 b11) dX0_prune_47 ?_
        refine lv_aload_n hx hb dX0_prune_48 rfl (lv_at hl 1 rfl) ?_
        refine rd_V (As := []) (rest := [.int (fJ (xPl g q).toNatClampNeg), .int (xPl g q), .ref a3]) (ci := 0) (qc := (RX0, TX0, 7)) S (c_X0_timeOfEffect l dC dI h a1 a2 a3 a4 a5 cA me tm fN fM fJ fT fC) gX0_prune_X0_timeOfEffect rfl ⟨rfl, rfl⟩ hd_X0_timeOfEffect ⟨Nat.le_of_ble_eq_true rfl, Nat.le_of_ble_eq_true rfl⟩ hK hP rfl rfl rfl hl.1 rfl (Nat.le_of_ble_eq_true rfl) dX0_prune_49 ⟨Nat.le_of_ble_eq_true rfl, Nat.le_of_ble_eq_true rfl⟩ ?_
        refine va_mmin hx hb (by rw [hml]; exact hl.1.symm) hown (hts (.methodLink RX0 25 Lib.Math.min.name) (by decide +kernel)) (hts (.static Lib.Math.min.name) (by decide +kernel)) (hts (.initialized "java/lang/Math") (by decide +kernel)) (hts (.code Lib.Math.min.name Lib.Math.min.code 2 (some .int)) (by decide +kernel)) (Nat.le_of_ble_eq_true rfl) (Nat.le_of_ble_eq_true rfl) (Nat.le_of_ble_eq_true rfl) (Nat.le_of_ble_eq_true rfl) dX0_prune_52 ?_
        refine lv_top (x' := xMin (fJ (xPl g q).toNatClampNeg) (xEff tm (xNb tm fN))) rfl ?_
        refine va_iast (D := (dC, dI)) hx hb hK hP hD hS 3 0 rfl rfl (Pl_in b4 b11) dX0_prune_55 (fun H locs hP hD hS => ?_)
        have hP : va_P (dC, dI) vwCl (wX h a1 a2 a3 a4 a5 cA me tm fN fM (upd fJ (xPl g q).toNatClampNeg (xMin (fJ (xPl g q).toNatClampNeg) (xEff tm (xNb tm fN)))) fT fC) H := hP
        have hD : va_D A (wX h a1 a2 a3 a4 a5 cA me tm fN fM (upd fJ (xPl g q).toNatClampNeg (xMin (fJ (xPl g q).toNatClampNeg) (xEff tm (xNb tm fN)))) fT fC) := hD
        refine lv_iconst (v := 1) hx hb dX0_prune_56 (by decide) ?_
        have e4 : xPrJ tm fN fJ g q = upd fJ (xPl g q).toNatClampNeg (xMin (fJ (xPl g q).toNatClampNeg) (xEff tm (xNb tm fN))) := by simp [xPrB, xPrJ, xJoB, bI, b4, b11, b32]
        have hP9 : va_P (dC, dI) vwCl (wX h a1 a2 a3 a4 a5 cA me tm fN fM (xPrJ tm fN fJ g q) fT fC) H := by rw [e4]; exact hP
        have er : (1 : Int32) = bI (xPrB tm fJ g q) := by simp [xPrB, xPrJ, xJoB, bI, b4, b11, b32]
        exact W.zret (v := (1 : Int32)) (ty := .boolean) hx hb hr rfl (fun t ht hW => ⟨⟨_, (), rfl, er, by dsimp only; rw [ht]; exact hP9⟩, by rw [hQ9]; exact hS.F ht⟩) hS.2.2 dX0_prune_57
      · have b32 := bI_z c32
        refine lv_iconst (v := 0) hx hb dX0_prune_35 (by decide) ?_
        have e4 : xPrJ tm fN fJ g q = fJ := by simp [xPrB, xPrJ, xJoB, bI, b4, b11, b32]
        have hP9 : va_P (dC, dI) vwCl (wX h a1 a2 a3 a4 a5 cA me tm fN fM (xPrJ tm fN fJ g q) fT fC) s.heap := by rw [e4]; exact hP
        have er : (0 : Int32) = bI (xPrB tm fJ g q) := by simp [xPrB, xPrJ, xJoB, bI, b4, b11, b32]
        exact W.zret (v := (0 : Int32)) (ty := .boolean) hx hb hr rfl (fun t ht hW => ⟨⟨_, (), rfl, er, by dsimp only; rw [ht]; exact hP9⟩, by rw [hQ9]; exact hS.F ht⟩) hS.2.2 dX0_prune_36
    · have b11 := bI_z c11
      refine lv_iconst (v := 0) hx hb dX0_prune_14 (by decide) ?_
      have e4 : xPrJ tm fN fJ g q = fJ := by simp [xPrB, xPrJ, xJoB, bI, b4, b11]
      have hP9 : va_P (dC, dI) vwCl (wX h a1 a2 a3 a4 a5 cA me tm fN fM (xPrJ tm fN fJ g q) fT fC) s.heap := by rw [e4]; exact hP
      have er : (0 : Int32) = bI (xPrB tm fJ g q) := by simp [xPrB, xPrJ, xJoB, bI, b4, b11]
      exact W.zret (v := (0 : Int32)) (ty := .boolean) hx hb hr rfl (fun t ht hW => ⟨⟨_, (), rfl, er, by dsimp only; rw [ht]; exact hP9⟩, by rw [hQ9]; exact hS.F ht⟩) hS.2.2 dX0_prune_15
theorem hd_X0_prune : yX0_prune.cls = RX0 ∧ yX0_prune.cls ≠ "java/lang/invoke/MethodHandle" ∧ yX0_prune.cls ≠ "java/lang/invoke/VarHandle" ∧ (parseMethodDescriptor yX0_prune.desc).map (fun d => d.parameters.length) = some 2 := by decide +kernel

theorem iwsX0_forget : ∀ w ∈ u_ws RX0 TX0 7, w ∈ wsX0_forget := fun _ h => List.mem_cons_of_mem _ (List.mem_append_right _ h)
set_option maxHeartbeats 4000000 in
set_option maxRecDepth 100000 in
theorem c_X0_forget (l : Launch) (dC : Nat → ClassId) (dI : Nat → Nat → Nat) (h a1 a2 a3 a4 a5 : Nat) (cA : ClassId) (me tm : Int32) (fN fM fJ fT fC : Nat → Int32) (sz : Nat) : Met l yX0_forget wsX0_forget ({ frames := 1, cells := 0, slots := 0, locals := 23 }) (PW [.ref h] dC dI cA (wX h a1 a2 a3 a4 a5 cA me tm fN fM fJ fT fC) sz) (QWv dC dI (wX h a1 a2 a3 a4 a5 cA me tm fN fM fJ fT fC) (wX h a1 a2 a3 a4 a5 cA me tm (fillI fN (0 : Int32) 10) (fillI fM (0 : Int32) 8) (fillI fJ (0 : Int32) 136) (fillI fT (0 : Int32) 8) (fillI fC (0 : Int32) 128)) sz) 0 0 (va_A (wX h a1 a2 a3 a4 a5 cA me tm fN fM fJ fT fC) sz) := by
  refine Met.ofW (cc := cX0_forget) (maxL := 1) (ret := none) (by decide) rfl ?_
  intro p e s m args below meth c s₁ B hml hv
  obtain ⟨rfl, hsz, hP, hK, hD0⟩ := hv
  have hx := B.exec
  have hb := B.bytes
  have hr := B.returns
  have hts := atoms_spec (ws := wsX0_forget) B.pre
  have hown : s.vm.findClass RX0 = some m.cls := findClass_of_methodNamed B.named
  have hlocks := B.notSynchronized
  have S : CallFix p m c cX0_forget 1 s ([.ref h] : List Value).toArray wsX0_forget RX0 := ⟨hx, hb, hml, hown, hts⟩
  subst hsz
  have hD := hD0.self (sz := s.heap.size)
  generalize hAe : va_A (wX h a1 a2 a3 a4 a5 cA me tm fN fM fJ fT fC) s.heap.size = A at hD ⊢
  have hAA : ∀ q : Nat, s.heap.size ≤ q → A q := fun q h => by rw [← hAe]; exact Or.inr h
  have hS : va_S A s.heap s.heap [] := va_S.rf
  have hQ9 := hAe
  have hl := lv_entry ([.ref h]) (n := 1) (Nat.le_of_ble_eq_true rfl)
  rw [lg_entry_eq]
  generalize (lg_sl ([.ref h]) ++ List.replicate (1 - (lg_sl ([.ref h])).length) Slot.unset).toArray = ls at hl ⊢
  have hl : lv_has ls 1 [(0, .ref h)] := hl
  refine lv_aload_n hx hb dX0_forget_0 rfl (lv_at hl 0 rfl) ?_
  refine va_get (D := (dC, dI)) (ci := 0) (v := .ref a1) (C := RX0) (T := TX0) (N := 7) hx hb hts iwsX0_forget hown hK hP 0 rfl rfl 2 (by decide) (hts (.fieldLink RX0 9 "BranchTimes" "neighbourTill" "[I") (by decide +kernel)) (fun _ h9 => h9) rfl dX0_forget_1 ?_
  refine lv_iconst (v := 0) hx hb dX0_forget_4 (by decide) ?_
  refine wr_Sv (As := [.ref a1, .int ((0 : Int32))]) (rest := []) (wr := [(h, .inr (0, [.int me, .int tm, .ref a1, .ref a2, .ref a3, .ref a4, .ref a5])), (a2, .inl (cA, 8, .inl fM)), (a3, .inl (cA, 136, .inl fJ)), (a4, .inl (cA, 8, .inl fT)), (a5, .inl (cA, 128, .inl fC))]) (A0 := A) S (c_J7_fill_53178 l dC dI a1 cA 10 fN ((0 : Int32)) (by decide) _) gX0_forget_J7_fill_53178 rfl ⟨rfl, rfl⟩ hd_J7_fill_53178 ⟨Nat.le_of_ble_eq_true rfl, Nat.le_of_ble_eq_true rfl⟩ hK hP hD hS hAA [1] [0, 2, 3, 4, 5] rfl rfl (by decide) (by decide) (by decide) rfl rfl hl.1 rfl (Nat.le_of_ble_eq_true rfl) dX0_forget_5 ⟨Nat.le_of_ble_eq_true rfl, Nat.le_of_ble_eq_true rfl⟩ (fun H locs hP hD hS => ?_)
  have hP : va_P (dC, dI) vwCl (wX h a1 a2 a3 a4 a5 cA me tm (fillI fN (0 : Int32) 10) fM fJ fT fC) H := hP.sub [0, 5, 1, 2, 3, 4] rfl
  have hD : va_D A (wX h a1 a2 a3 a4 a5 cA me tm (fillI fN (0 : Int32) 10) fM fJ fT fC) := hD.sub [0, 5, 1, 2, 3, 4] (by decide) rfl
  refine lv_aload_n hx hb dX0_forget_8 rfl (lv_at hl 0 rfl) ?_
  refine va_get (D := (dC, dI)) (ci := 0) (v := .ref a2) (C := RX0) (T := TX0) (N := 7) hx hb hts iwsX0_forget hown hK hP 0 rfl rfl 3 (by decide) (hts (.fieldLink RX0 13 "BranchTimes" "membersTill" "[I") (by decide +kernel)) (fun _ h9 => h9) rfl dX0_forget_9 ?_
  refine lv_iconst (v := 0) hx hb dX0_forget_12 (by decide) ?_
  refine wr_Sv (As := [.ref a2, .int ((0 : Int32))]) (rest := []) (wr := [(h, .inr (0, [.int me, .int tm, .ref a1, .ref a2, .ref a3, .ref a4, .ref a5])), (a1, .inl (cA, 10, .inl (fillI fN (0 : Int32) 10))), (a3, .inl (cA, 136, .inl fJ)), (a4, .inl (cA, 8, .inl fT)), (a5, .inl (cA, 128, .inl fC))]) (A0 := A) S (c_J7_fill_53178 l dC dI a2 cA 8 fM ((0 : Int32)) (by decide) _) gX0_forget_J7_fill_53178 rfl ⟨rfl, rfl⟩ hd_J7_fill_53178 ⟨Nat.le_of_ble_eq_true rfl, Nat.le_of_ble_eq_true rfl⟩ hK hP hD hS hAA [2] [0, 1, 3, 4, 5] rfl rfl (by decide) (by decide) (by decide) rfl rfl hl.1 rfl (Nat.le_of_ble_eq_true rfl) dX0_forget_13 ⟨Nat.le_of_ble_eq_true rfl, Nat.le_of_ble_eq_true rfl⟩ (fun H locs hP hD hS => ?_)
  have hP : va_P (dC, dI) vwCl (wX h a1 a2 a3 a4 a5 cA me tm (fillI fN (0 : Int32) 10) (fillI fM (0 : Int32) 8) fJ fT fC) H := hP.sub [0, 1, 5, 2, 3, 4] rfl
  have hD : va_D A (wX h a1 a2 a3 a4 a5 cA me tm (fillI fN (0 : Int32) 10) (fillI fM (0 : Int32) 8) fJ fT fC) := hD.sub [0, 1, 5, 2, 3, 4] (by decide) rfl
  refine lv_aload_n hx hb dX0_forget_16 rfl (lv_at hl 0 rfl) ?_
  refine va_get (D := (dC, dI)) (ci := 0) (v := .ref a3) (C := RX0) (T := TX0) (N := 7) hx hb hts iwsX0_forget hown hK hP 0 rfl rfl 4 (by decide) (hts (.fieldLink RX0 16 "BranchTimes" "joinedTill" "[I") (by decide +kernel)) (fun _ h9 => h9) rfl dX0_forget_17 ?_
  refine lv_iconst (v := 0) hx hb dX0_forget_20 (by decide) ?_
  refine wr_Sv (As := [.ref a3, .int ((0 : Int32))]) (rest := []) (wr := [(h, .inr (0, [.int me, .int tm, .ref a1, .ref a2, .ref a3, .ref a4, .ref a5])), (a1, .inl (cA, 10, .inl (fillI fN (0 : Int32) 10))), (a2, .inl (cA, 8, .inl (fillI fM (0 : Int32) 8))), (a4, .inl (cA, 8, .inl fT)), (a5, .inl (cA, 128, .inl fC))]) (A0 := A) S (c_J7_fill_53178 l dC dI a3 cA 136 fJ ((0 : Int32)) (by decide) _) gX0_forget_J7_fill_53178 rfl ⟨rfl, rfl⟩ hd_J7_fill_53178 ⟨Nat.le_of_ble_eq_true rfl, Nat.le_of_ble_eq_true rfl⟩ hK hP hD hS hAA [3] [0, 1, 2, 4, 5] rfl rfl (by decide) (by decide) (by decide) rfl rfl hl.1 rfl (Nat.le_of_ble_eq_true rfl) dX0_forget_21 ⟨Nat.le_of_ble_eq_true rfl, Nat.le_of_ble_eq_true rfl⟩ (fun H locs hP hD hS => ?_)
  have hP : va_P (dC, dI) vwCl (wX h a1 a2 a3 a4 a5 cA me tm (fillI fN (0 : Int32) 10) (fillI fM (0 : Int32) 8) (fillI fJ (0 : Int32) 136) fT fC) H := hP.sub [0, 1, 2, 5, 3, 4] rfl
  have hD : va_D A (wX h a1 a2 a3 a4 a5 cA me tm (fillI fN (0 : Int32) 10) (fillI fM (0 : Int32) 8) (fillI fJ (0 : Int32) 136) fT fC) := hD.sub [0, 1, 2, 5, 3, 4] (by decide) rfl
  refine lv_aload_n hx hb dX0_forget_24 rfl (lv_at hl 0 rfl) ?_
  refine va_get (D := (dC, dI)) (ci := 0) (v := .ref a4) (C := RX0) (T := TX0) (N := 7) hx hb hts iwsX0_forget hown hK hP 0 rfl rfl 5 (by decide) (hts (.fieldLink RX0 19 "BranchTimes" "told" "[I") (by decide +kernel)) (fun _ h9 => h9) rfl dX0_forget_25 ?_
  refine lv_iconst (v := 0) hx hb dX0_forget_28 (by decide) ?_
  refine wr_Sv (As := [.ref a4, .int ((0 : Int32))]) (rest := []) (wr := [(h, .inr (0, [.int me, .int tm, .ref a1, .ref a2, .ref a3, .ref a4, .ref a5])), (a1, .inl (cA, 10, .inl (fillI fN (0 : Int32) 10))), (a2, .inl (cA, 8, .inl (fillI fM (0 : Int32) 8))), (a3, .inl (cA, 136, .inl (fillI fJ (0 : Int32) 136))), (a5, .inl (cA, 128, .inl fC))]) (A0 := A) S (c_J7_fill_53178 l dC dI a4 cA 8 fT ((0 : Int32)) (by decide) _) gX0_forget_J7_fill_53178 rfl ⟨rfl, rfl⟩ hd_J7_fill_53178 ⟨Nat.le_of_ble_eq_true rfl, Nat.le_of_ble_eq_true rfl⟩ hK hP hD hS hAA [4] [0, 1, 2, 3, 5] rfl rfl (by decide) (by decide) (by decide) rfl rfl hl.1 rfl (Nat.le_of_ble_eq_true rfl) dX0_forget_29 ⟨Nat.le_of_ble_eq_true rfl, Nat.le_of_ble_eq_true rfl⟩ (fun H locs hP hD hS => ?_)
  have hP : va_P (dC, dI) vwCl (wX h a1 a2 a3 a4 a5 cA me tm (fillI fN (0 : Int32) 10) (fillI fM (0 : Int32) 8) (fillI fJ (0 : Int32) 136) (fillI fT (0 : Int32) 8) fC) H := hP.sub [0, 1, 2, 3, 5, 4] rfl
  have hD : va_D A (wX h a1 a2 a3 a4 a5 cA me tm (fillI fN (0 : Int32) 10) (fillI fM (0 : Int32) 8) (fillI fJ (0 : Int32) 136) (fillI fT (0 : Int32) 8) fC) := hD.sub [0, 1, 2, 3, 5, 4] (by decide) rfl
  refine lv_aload_n hx hb dX0_forget_32 rfl (lv_at hl 0 rfl) ?_
  refine va_get (D := (dC, dI)) (ci := 0) (v := .ref a5) (C := RX0) (T := TX0) (N := 7) hx hb hts iwsX0_forget hown hK hP 0 rfl rfl 6 (by decide) (hts (.fieldLink RX0 22 "BranchTimes" "cutFrom" "[I") (by decide +kernel)) (fun _ h9 => h9) rfl dX0_forget_33 ?_
  refine lv_iconst (v := 0) hx hb dX0_forget_36 (by decide) ?_
  refine wr_Sv (As := [.ref a5, .int ((0 : Int32))]) (rest := []) (wr := [(h, .inr (0, [.int me, .int tm, .ref a1, .ref a2, .ref a3, .ref a4, .ref a5])), (a1, .inl (cA, 10, .inl (fillI fN (0 : Int32) 10))), (a2, .inl (cA, 8, .inl (fillI fM (0 : Int32) 8))), (a3, .inl (cA, 136, .inl (fillI fJ (0 : Int32) 136))), (a4, .inl (cA, 8, .inl (fillI fT (0 : Int32) 8)))]) (A0 := A) S (c_J7_fill_53178 l dC dI a5 cA 128 fC ((0 : Int32)) (by decide) _) gX0_forget_J7_fill_53178 rfl ⟨rfl, rfl⟩ hd_J7_fill_53178 ⟨Nat.le_of_ble_eq_true rfl, Nat.le_of_ble_eq_true rfl⟩ hK hP hD hS hAA [5] [0, 1, 2, 3, 4] rfl rfl (by decide) (by decide) (by decide) rfl rfl hl.1 rfl (Nat.le_of_ble_eq_true rfl) dX0_forget_37 ⟨Nat.le_of_ble_eq_true rfl, Nat.le_of_ble_eq_true rfl⟩ (fun H locs hP hD hS => ?_)
  have hP : va_P (dC, dI) vwCl (wX h a1 a2 a3 a4 a5 cA me tm (fillI fN (0 : Int32) 10) (fillI fM (0 : Int32) 8) (fillI fJ (0 : Int32) 136) (fillI fT (0 : Int32) 8) (fillI fC (0 : Int32) 128)) H := hP.sub [0, 1, 2, 3, 4, 5] rfl
  have hD : va_D A (wX h a1 a2 a3 a4 a5 cA me tm (fillI fN (0 : Int32) 10) (fillI fM (0 : Int32) 8) (fillI fJ (0 : Int32) 136) (fillI fT (0 : Int32) 8) (fillI fC (0 : Int32) 128)) := hD.sub [0, 1, 2, 3, 4, 5] (by decide) rfl
  have hP9 : va_P (dC, dI) vwCl (wX h a1 a2 a3 a4 a5 cA me tm (fillI fN (0 : Int32) 10) (fillI fM (0 : Int32) 8) (fillI fJ (0 : Int32) 136) (fillI fT (0 : Int32) 8) (fillI fC (0 : Int32) 128)) H := by exact hP
  exact W.vret hx hb hr (fun t ht hW => ⟨⟨(), rfl, trivial, by dsimp only; rw [ht]; exact hP9⟩, by rw [hQ9]; exact hS.F ht⟩) hS.2.2 dX0_forget_40
theorem hd_X0_forget : yX0_forget.cls = RX0 ∧ yX0_forget.cls ≠ "java/lang/invoke/MethodHandle" ∧ yX0_forget.cls ≠ "java/lang/invoke/VarHandle" ∧ (parseMethodDescriptor yX0_forget.desc).map (fun d => d.parameters.length) = some 0 := by decide +kernel
end
section
theorem mSrc {g q : Int32} (h : mBr g q = true) (hq : ¬ q = -1) : xSrc q = true := by
  rcases mBr_of h with e | ⟨i, hi, rfl⟩
  · exact absurd e hq
  · exact xSrc_nI hi
theorem mBr_dm {i : Nat} (h : i < 136) : mBr (mDv i) (mMd i) = true := co_dec (N := 136) (P := fun i => mBr (mDv i) (mMd i) = true) (by decide +kernel) h
theorem mCnt0 : ∀ k : Nat, mCntN k 0 = 0
  | 0 => rfl
  | k + 1 => by show 0 % 2 + mCntN k (0 / 2) = 0; rw [Nat.zero_div, mCnt0 k]
theorem mCutsI_n {was : Bool} {cF : Nat → Int32} {g bits fo : Int32} {k : Nat} (ht : mTold bits k = false) : mCutsI was cF g bits fo (k + 1) = upd (mCutsI was cF g bits fo k) (mCp g (nI k)).toNatClampNeg (-1) := if_neg (by rw [ht]; decide)
theorem mCutsI_s {was : Bool} {cF : Nat → Int32} {g bits fo : Int32} {k : Nat} (ht : mTold bits k = true) (hn : was = false ∨ mCutsI was cF g bits fo k (mCp g (nI k)).toNatClampNeg = -1) : mCutsI was cF g bits fo (k + 1) = upd (mCutsI was cF g bits fo k) (mCp g (nI k)).toNatClampNeg fo :=
  (if_pos ht).trans (if_pos (by rcases hn with h | h <;> simp [h]))
theorem mCutsI_k {was : Bool} {cF : Nat → Int32} {g bits fo : Int32} {k : Nat} (ht : mTold bits k = true) (hw : was = true) (hc : ¬ mCutsI was cF g bits fo k (mCp g (nI k)).toNatClampNeg = -1) : mCutsI was cF g bits fo (k + 1) = mCutsI was cF g bits fo k :=
  (if_pos ht).trans (if_neg (by subst hw; simp [hc]))
theorem or_bit {b k : Nat} (hk : k < 31) (hb : b < 2 ^ k) : nI b ||| ((1 : Int32) <<< (nI k &&& 31)) = nI (b + 2 ^ k) := by
  have h1 : ((1 : Int32) <<< (nI k &&& 31)) = nI (2 ^ k) := by
    have := pk_shlN (n := 1) (nI k &&& 31) k (co_dec (N := 31) (P := fun k => ((nI k &&& 31).toBitVec.smod 32).toNat = k) (by decide +kernel) hk) (by
      have : 2 ^ k ≤ 2 ^ 30 := Nat.pow_le_pow_right (by decide) (by omega)
      omega)
    rw [Nat.one_mul] at this
    exact this
  rw [h1]
  have h2 : 2 ^ k ≤ 2 ^ 30 := Nat.pow_le_pow_right (by decide) (by omega)
  refine Int32.toBitVec_inj.mp ?_
  refine BitVec.eq_of_toNat_eq ?_
  rw [Int32.toBitVec_or, BitVec.toNat_or, pk_tn (by omega), pk_tn (by omega), pk_tn (by omega), Nat.or_comm]
  have := Nat.two_pow_add_eq_or_of_lt hb 1
  rw [Nat.mul_one] at this
  rw [← this, Nat.add_comm]
theorem bitsI_nat (q : Nat → Bool) : ∀ k : Nat, k ≤ 31 → ∃ b : Nat, b < 2 ^ k ∧ bitsI q k = nI b
  | 0, _ => ⟨0, by decide, nI_0.symm⟩
  | k + 1, h => by
    obtain ⟨b, hb, e⟩ := bitsI_nat q k (by omega)
    have hp : 2 ^ (k + 1) = 2 ^ k + 2 ^ k := by rw [Nat.pow_succ]; omega
    cases hq : q k with
    | true => exact ⟨b + 2 ^ k, by omega, by rw [bitsI_t hq, e]; exact or_bit (by omega) hb⟩
    | false => exact ⟨b, by omega, by rw [bitsI_f hq, e]⟩
end
section
set_option maxHeartbeats 4000000 in
set_option maxRecDepth 100000 in
theorem c_X1_isGroup (l : Launch) (g : Int32) : Met l yX1_isGroup wsX1_isGroup ({ frames := 0, cells := 0, slots := 0, locals := 0 }) (PS [.int g]) (QcRead (bI (xG g))) 0 0 (fun _ => False) := by
  refine Met.ofW (cc := cX1_isGroup) (maxL := 1) (ret := some .boolean) (by decide) rfl ?_
  intro p e s m args below meth c s₁ B hml hv
  obtain ⟨rfl, -⟩ := hv
  have hx := B.exec
  have hb := B.bytes
  have hr := B.returns
  have hts := atoms_spec (ws := wsX1_isGroup) B.pre
  have hown : s.vm.findClass RX1 = some m.cls := findClass_of_methodNamed B.named
  have hlocks := B.notSynchronized
  have S : CallFix p m c cX1_isGroup 1 s ([.int g] : List Value).toArray wsX1_isGroup RX1 := ⟨hx, hb, hml, hown, hts⟩
  have hl := lv_entry ([.int g]) (n := 1) (Nat.le_of_ble_eq_true rfl)
  rw [lg_entry_eq]
  generalize (lg_sl ([.int g]) ++ List.replicate (1 - (lg_sl ([.int g])).length) Slot.unset).toArray = ls at hl ⊢
  have hl : lv_has ls 1 [(0, .int g)] := hl
  refine lv_iload_n hx hb dX1_isGroup_0 rfl (lv_at hl 0 rfl) ?_
  refine lv_if_lt (tgt := 14) hx hb dX1_isGroup_1 (by decide) (fun c1 => ?_) (fun c1 => ?_)
  · refine lv_iconst (v := 0) hx hb dX1_isGroup_14 (by decide) ?_
    have er : (0 : Int32) = bI (xG g) := by simp [xG, bI, c1]
    exact W.zret (v := (0 : Int32)) (ty := .boolean) hx hb hr rfl (fun t ht hW => ⟨congrArg (fun z => Outcome.returned (some (Value.int z))) er, ht⟩) (fun q h => absurd h List.not_mem_nil) dX1_isGroup_15
  · refine lv_iload_n hx hb dX1_isGroup_4 rfl (lv_at hl 0 rfl) ?_
    refine lv_bipush (v := 8) hx hb dX1_isGroup_5 (by decide) ?_
    refine lv_icmp_ge (tgt := 14) hx hb dX1_isGroup_7 (by decide) (fun c7 => ?_) (fun c7 => ?_)
    · refine lv_iconst (v := 0) hx hb dX1_isGroup_14 (by decide) ?_
      have er : (0 : Int32) = bI (xG g) := by simp [xG, bI, c1, c7]
      exact W.zret (v := (0 : Int32)) (ty := .boolean) hx hb hr rfl (fun t ht hW => ⟨congrArg (fun z => Outcome.returned (some (Value.int z))) er, ht⟩) (fun q h => absurd h List.not_mem_nil) dX1_isGroup_15
    · refine lv_iconst (v := 1) hx hb dX1_isGroup_10 (by decide) ?_
      refine lv_goto (tgt := 15) hx hb dX1_isGroup_11 (by decide) ?_
      have er : (1 : Int32) = bI (xG g) := by simp [xG, bI, c1, c7]
      exact W.zret (v := (1 : Int32)) (ty := .boolean) hx hb hr rfl (fun t ht hW => ⟨congrArg (fun z => Outcome.returned (some (Value.int z))) er, ht⟩) (fun q h => absurd h List.not_mem_nil) dX1_isGroup_15
theorem hd_X1_isGroup : yX1_isGroup.cls ≠ "java/lang/invoke/MethodHandle" ∧ yX1_isGroup.cls ≠ "java/lang/invoke/VarHandle" ∧ (parseMethodDescriptor yX1_isGroup.desc).map (fun d => d.parameters.length) = some 1 := by decide +kernel

set_option maxHeartbeats 4000000 in
set_option maxRecDepth 100000 in
theorem c_X1_isBranch (l : Launch) (g q : Int32) : Met l yX1_isBranch wsX1_isBranch ({ frames := 1, cells := 0, slots := 0, locals := 20 }) (PS [.int g, .int q]) (QcRead (bI (mBr g q))) 0 0 (fun _ => False) := by
  refine Met.ofW (cc := cX1_isBranch) (maxL := 2) (ret := some .boolean) (by decide) rfl ?_
  intro p e s m args below meth c s₁ B hml hv
  obtain ⟨rfl, -⟩ := hv
  have hx := B.exec
  have hb := B.bytes
  have hr := B.returns
  have hts := atoms_spec (ws := wsX1_isBranch) B.pre
  have hown : s.vm.findClass RX1 = some m.cls := findClass_of_methodNamed B.named
  have hlocks := B.notSynchronized
  have S : CallFix p m c cX1_isBranch 2 s ([.int g, .int q] : List Value).toArray wsX1_isBranch RX1 := ⟨hx, hb, hml, hown, hts⟩
  have hl := lv_entry ([.int g, .int q]) (n := 2) (Nat.le_of_ble_eq_true rfl)
  rw [lg_entry_eq]
  generalize (lg_sl ([.int g, .int q]) ++ List.replicate (2 - (lg_sl ([.int g, .int q])).length) Slot.unset).toArray = ls at hl ⊢
  have hl : lv_has ls 2 [(0, .int g), (1, .int q)] := hl
  refine lv_iload_n hx hb dX1_isBranch_0 rfl (lv_at hl 0 rfl) ?_
  refine rd_S (As := [.int g]) (rest := []) S (c_X1_isGroup l g) gX1_isBranch_X1_isGroup rfl ⟨rfl, rfl⟩ hd_X1_isGroup ⟨Nat.le_of_ble_eq_true rfl, Nat.le_of_ble_eq_true rfl⟩ rfl hl.1 rfl (Nat.le_of_ble_eq_true rfl) dX1_isBranch_1 ⟨Nat.le_of_ble_eq_true rfl, Nat.le_of_ble_eq_true rfl⟩ ?_
  refine lv_if_eq (tgt := 22) hx hb dX1_isBranch_4 (by decide) (fun c4 => ?_) (fun c4 => ?_)
  · have b4 := bI_z c4
    refine lv_iconst (v := 0) hx hb dX1_isBranch_22 (by decide) ?_
    have er : (0 : Int32) = bI (mBr g q) := by simp [mBr, bI, b4]
    exact W.zret (v := (0 : Int32)) (ty := .boolean) hx hb hr rfl (fun t ht hW => ⟨congrArg (fun z => Outcome.returned (some (Value.int z))) er, ht⟩) (fun q h => absurd h List.not_mem_nil) dX1_isBranch_23
  · have b4 := bI_nz c4
    refine lv_iload_n hx hb dX1_isBranch_7 rfl (lv_at hl 1 rfl) ?_
    refine lv_iconst (v := -1) hx hb dX1_isBranch_8 (by decide) ?_
    refine lv_icmp_lt (tgt := 22) hx hb dX1_isBranch_9 (by decide) (fun c9 => ?_) (fun c9 => ?_)
    · refine lv_iconst (v := 0) hx hb dX1_isBranch_22 (by decide) ?_
      have er : (0 : Int32) = bI (mBr g q) := by simp [mBr, bI, b4, c9]
      exact W.zret (v := (0 : Int32)) (ty := .boolean) hx hb hr rfl (fun t ht hW => ⟨congrArg (fun z => Outcome.returned (some (Value.int z))) er, ht⟩) (fun q h => absurd h List.not_mem_nil) dX1_isBranch_23
    · refine lv_iload_n hx hb dX1_isBranch_12 rfl (lv_at hl 1 rfl) ?_
      refine lv_bipush (v := 16) hx hb dX1_isBranch_13 (by decide) ?_
      refine lv_icmp_ge (tgt := 22) hx hb dX1_isBranch_15 (by decide) (fun c15 => ?_) (fun c15 => ?_)
      · refine lv_iconst (v := 0) hx hb dX1_isBranch_22 (by decide) ?_
        have er : (0 : Int32) = bI (mBr g q) := by simp [mBr, bI, b4, c9, c15]
        exact W.zret (v := (0 : Int32)) (ty := .boolean) hx hb hr rfl (fun t ht hW => ⟨congrArg (fun z => Outcome.returned (some (Value.int z))) er, ht⟩) (fun q h => absurd h List.not_mem_nil) dX1_isBranch_23
      · refine lv_iconst (v := 1) hx hb dX1_isBranch_18 (by decide) ?_
        refine lv_goto (tgt := 23) hx hb dX1_isBranch_19 (by decide) ?_
        have er : (1 : Int32) = bI (mBr g q) := by simp [mBr, bI, b4, c9, c15]
        exact W.zret (v := (1 : Int32)) (ty := .boolean) hx hb hr rfl (fun t ht hW => ⟨congrArg (fun z => Outcome.returned (some (Value.int z))) er, ht⟩) (fun q h => absurd h List.not_mem_nil) dX1_isBranch_23
theorem hd_X1_isBranch : yX1_isBranch.cls ≠ "java/lang/invoke/MethodHandle" ∧ yX1_isBranch.cls ≠ "java/lang/invoke/VarHandle" ∧ (parseMethodDescriptor yX1_isBranch.desc).map (fun d => d.parameters.length) = some 2 := by decide +kernel

theorem iwsX1_neighbours : ∀ w ∈ u_ws RX1 TX1 8, w ∈ wsX1_neighbours := fun _ h => List.mem_cons_of_mem _ (List.mem_append_right _ h)
set_option maxHeartbeats 4000000 in
set_option maxRecDepth 100000 in
theorem lp_X1_neighbours_4 {p : Program} {e : Env} {s : State} {m : MethodId} {args : Array Value} {below : List Frame} {meth : Method} {c : Code} {cells slots : Nat} {Q : State → Prop} {H : Heap} {locs : List Loc} (l : Launch) (dC : Nat → ClassId) (dI : Nat → Nat → Nat) (h a1 a2 a3 a4 a5 a6 : Nat) (cA : ClassId) (me tm : Int32) (hA rA lT jA pT cF : Nat → Int32) (S : CallFix p m c cX1_neighbours 3 s args wsX1_neighbours RX1) (hK : va_K (dC, dI) vwCl [(cA, .int)] s) (hP : va_P (dC, dI) vwCl (wM h a1 a2 a3 a4 a5 a6 cA me tm hA rA lT jA pT cF) H) (hcs : cells + 0 ≤ 0 ∧ slots + 0 ≤ 0) (k : ∀ (ls : Array Slot), lv_has ls 3 [(0, .ref h), (1, .int (bitsI (mNbq tm hA) 10)), (2, .int (nI 10))] → W p l e ({ frames := 0, cells := 0, slots := 0, locals := 0 }) s m args below meth c H locs cells slots Q (F0 m 48 ls [])) : ∀ (n i : Nat), i + n = 10 → ∀ (ls : Array Slot), lv_has ls 3 [(0, .ref h), (1, .int (bitsI (mNbq tm hA) i)), (2, .int (nI i))] → W p l e ({ frames := 0, cells := 0, slots := 0, locals := 0 }) s m args below meth c H locs cells slots Q (F0 m 4 ls []) := by
  obtain ⟨hx, hb, hml, hown, hts⟩ := id S
  intro n
  induction n with
  | zero =>
    intro i hi ls hl
    obtain rfl : i = 10 := by omega
    refine lv_iload_n hx hb dX1_neighbours_4 rfl (lv_at hl 2 rfl) ?_
    refine lv_bipush (v := 10) hx hb dX1_neighbours_5 (by decide) ?_
    refine lv_icmp_ge (tgt := 48) hx hb dX1_neighbours_7 (by decide) (fun c7 => ?_) (fun c7 => ?_)
    · exact k ls (lv_sub hl [0, 1, 2] rfl)
    · exact absurd c7 (by decide)
  | succ n ih =>
    intro i hi ls hl
    have hlt : i < 10 := by omega
    have hcl : (nI i).toNatClampNeg = i := nI_clamp (by omega)
    refine lv_iload_n hx hb dX1_neighbours_4 rfl (lv_at hl 2 rfl) ?_
    refine lv_bipush (v := 10) hx hb dX1_neighbours_5 (by decide) ?_
    refine lv_icmp_ge (tgt := 48) hx hb dX1_neighbours_7 (by decide) (fun c7 => ?_) (fun c7 => ?_)
    · exact absurd c7 (nI_ge hlt (by decide))
    · refine lv_aload_n hx hb dX1_neighbours_10 rfl (lv_at hl 0 rfl) ?_
      refine va_get (D := (dC, dI)) (ci := 1) (v := .ref a1) (C := RX1) (T := TX1) (N := 8) hx hb hts iwsX1_neighbours hown hK hP 0 rfl rfl 2 (by decide) (hts (.fieldLink RX1 7 "BranchTimesModel" "helloAt" "[I") (by decide +kernel)) (fun _ h9 => h9) rfl dX1_neighbours_11 ?_
      refine lv_iload_n hx hb dX1_neighbours_14 rfl (lv_at hl 2 rfl) ?_
      refine va_iald (D := (dC, dI)) hx hb hK hP 1 0 rfl rfl (vp_in_nI hlt (by decide)) dX1_neighbours_15 ?_
      refine lv_top (x' := hA i) (congrArg hA hcl) ?_
      refine lv_iconst (v := -1) hx hb dX1_neighbours_16 (by decide) ?_
      refine lv_icmp_eq (tgt := 42) hx hb dX1_neighbours_17 (by decide) (fun c17 => ?_) (fun c17 => ?_)
      · refine lv_iinc (v := nI (i + 1)) (lv' := [(2, .int (nI (i + 1))), (0, .ref h), (1, .int (bitsI (mNbq tm hA) i))]) hx hb dX1_neighbours_42 hl (k := 2) rfl (nI_1 _) (by decide) rfl (fun ls hl => ?_)
        refine lv_goto (tgt := 4) hx hb dX1_neighbours_45 (by decide) ?_
        exact ih (i + 1) (by omega) ls (by rw [bitsI_f (q := mNbq tm hA) (k := i) (by simp [mNbq, c17])]; exact lv_sub hl [1, 2, 0] rfl)
      · refine lv_aload_n hx hb dX1_neighbours_20 rfl (lv_at hl 0 rfl) ?_
        refine va_get (D := (dC, dI)) (ci := 1) (v := .int tm) (C := RX1) (T := TX1) (N := 8) hx hb hts iwsX1_neighbours hown hK hP 0 rfl rfl 1 (by decide) (hts (.fieldLink RX1 39 "BranchTimesModel" "time" "I") (by decide +kernel)) (fun _ h9 => h9) rfl dX1_neighbours_21 ?_
        refine lv_aload_n hx hb dX1_neighbours_24 rfl (lv_at hl 0 rfl) ?_
        refine va_get (D := (dC, dI)) (ci := 1) (v := .ref a1) (C := RX1) (T := TX1) (N := 8) hx hb hts iwsX1_neighbours hown hK hP 0 rfl rfl 2 (by decide) (hts (.fieldLink RX1 7 "BranchTimesModel" "helloAt" "[I") (by decide +kernel)) (fun _ h9 => h9) rfl dX1_neighbours_25 ?_
        refine lv_iload_n hx hb dX1_neighbours_28 rfl (lv_at hl 2 rfl) ?_
        refine va_iald (D := (dC, dI)) hx hb hK hP 1 0 rfl rfl (vp_in_nI hlt (by decide)) dX1_neighbours_29 ?_
        refine lv_top (x' := hA i) (congrArg hA hcl) ?_
        refine lv_bipush (v := 65) hx hb dX1_neighbours_30 (by decide) ?_
        refine lv_iadd hx hb dX1_neighbours_32 ?_
        refine lv_icmp_ge (tgt := 42) hx hb dX1_neighbours_33 (by decide) (fun c33 => ?_) (fun c33 => ?_)
        · refine lv_iinc (v := nI (i + 1)) (lv' := [(2, .int (nI (i + 1))), (0, .ref h), (1, .int (bitsI (mNbq tm hA) i))]) hx hb dX1_neighbours_42 hl (k := 2) rfl (nI_1 _) (by decide) rfl (fun ls hl => ?_)
          refine lv_goto (tgt := 4) hx hb dX1_neighbours_45 (by decide) ?_
          exact ih (i + 1) (by omega) ls (by rw [bitsI_f (q := mNbq tm hA) (k := i) (by simp [mNbq, c17, c33])]; exact lv_sub hl [1, 2, 0] rfl)
        · refine lv_iload_n hx hb dX1_neighbours_36 rfl (lv_at hl 1 rfl) ?_
          refine lv_iconst (v := 1) hx hb dX1_neighbours_37 (by decide) ?_
          refine lv_iload_n hx hb dX1_neighbours_38 rfl (lv_at hl 2 rfl) ?_
          refine lv_ishl hx hb dX1_neighbours_39 ?_
          refine lv_ior hx hb dX1_neighbours_40 ?_
          refine lv_istore_n (lv' := [(1, .int ((bitsI (mNbq tm hA) i) ||| (((1 : Int32)) <<< ((nI i) &&& 31)))), (0, .ref h), (2, .int (nI i))]) hx hb dX1_neighbours_41 rfl hl (by decide) rfl (fun ls hl => ?_)
          refine lv_iinc (v := nI (i + 1)) (lv' := [(2, .int (nI (i + 1))), (1, .int ((bitsI (mNbq tm hA) i) ||| (((1 : Int32)) <<< ((nI i) &&& 31)))), (0, .ref h)]) hx hb dX1_neighbours_42 hl (k := 2) rfl (nI_1 _) (by decide) rfl (fun ls hl => ?_)
          refine lv_goto (tgt := 4) hx hb dX1_neighbours_45 (by decide) ?_
          exact ih (i + 1) (by omega) ls (by rw [bitsI_t (q := mNbq tm hA) (k := i) (by simp [mNbq, c17, c33])]; exact lv_sub hl [2, 1, 0] rfl)
set_option maxHeartbeats 4000000 in
set_option maxRecDepth 100000 in
theorem c_X1_neighbours (l : Launch) (dC : Nat → ClassId) (dI : Nat → Nat → Nat) (h a1 a2 a3 a4 a5 a6 : Nat) (cA : ClassId) (me tm : Int32) (hA rA lT jA pT cF : Nat → Int32) : Met l yX1_neighbours wsX1_neighbours ({ frames := 0, cells := 0, slots := 0, locals := 0 }) (PR [.ref h] dC dI cA (wM h a1 a2 a3 a4 a5 a6 cA me tm hA rA lT jA pT cF)) (QcRead (mNb tm hA)) 0 0 (fun _ => False) := by
  refine Met.ofW (cc := cX1_neighbours) (maxL := 3) (ret := some .int) (by decide) rfl ?_
  intro p e s m args below meth c s₁ B hml hv
  obtain ⟨rfl, hP, hK⟩ := hv
  have hx := B.exec
  have hb := B.bytes
  have hr := B.returns
  have hts := atoms_spec (ws := wsX1_neighbours) B.pre
  have hown : s.vm.findClass RX1 = some m.cls := findClass_of_methodNamed B.named
  have hlocks := B.notSynchronized
  have S : CallFix p m c cX1_neighbours 3 s ([.ref h] : List Value).toArray wsX1_neighbours RX1 := ⟨hx, hb, hml, hown, hts⟩
  have hl := lv_entry ([.ref h]) (n := 3) (Nat.le_of_ble_eq_true rfl)
  rw [lg_entry_eq]
  generalize (lg_sl ([.ref h]) ++ List.replicate (3 - (lg_sl ([.ref h])).length) Slot.unset).toArray = ls at hl ⊢
  have hl : lv_has ls 3 [(0, .ref h)] := hl
  refine lv_iconst (v := 0) hx hb dX1_neighbours_0 (by decide) ?_
  refine lv_istore_n (lv' := [(1, .int ((0 : Int32))), (0, .ref h)]) hx hb dX1_neighbours_1 rfl hl (by decide) rfl (fun ls hl => ?_)
  refine lv_iconst (v := 0) hx hb dX1_neighbours_2 (by decide) ?_
  refine lv_istore_n (lv' := [(2, .int ((0 : Int32))), (1, .int ((0 : Int32))), (0, .ref h)]) hx hb dX1_neighbours_3 rfl hl (by decide) rfl (fun ls hl => ?_)
  refine lp_X1_neighbours_4 l dC dI h a1 a2 a3 a4 a5 a6 cA me tm hA rA lT jA pT cF S hK hP ⟨Nat.le_of_ble_eq_true rfl, Nat.le_of_ble_eq_true rfl⟩ (fun ls hl => ?_) 10 0 rfl ls (lv_sub hl [2, 1, 0] rfl)
  refine lv_iload_n hx hb dX1_neighbours_48 rfl (lv_at hl 1 rfl) ?_
  exact W.iret (v := bitsI (mNbq tm hA) 10) hx hb hr (fun t ht hW => ⟨rfl, ht⟩) (fun q h => absurd h List.not_mem_nil) dX1_neighbours_49
theorem hd_X1_neighbours : yX1_neighbours.cls = RX1 ∧ yX1_neighbours.cls ≠ "java/lang/invoke/MethodHandle" ∧ yX1_neighbours.cls ≠ "java/lang/invoke/VarHandle" ∧ (parseMethodDescriptor yX1_neighbours.desc).map (fun d => d.parameters.length) = some 0 := by decide +kernel

theorem iwsX1_isFirst : ∀ w ∈ u_ws RX1 TX1 8, w ∈ wsX1_isFirst := fun _ h => List.mem_cons_of_mem _ (List.mem_append_right _ h)
set_option maxHeartbeats 4000000 in
set_option maxRecDepth 100000 in
theorem c_X1_isFirst (l : Launch) (dC : Nat → ClassId) (dI : Nat → Nat → Nat) (h a1 a2 a3 a4 a5 a6 : Nat) (cA : ClassId) (me tm : Int32) (hA rA lT jA pT cF : Nat → Int32) : Met l yX1_isFirst wsX1_isFirst ({ frames := 1, cells := 0, slots := 0, locals := 22 }) (PR [.ref h] dC dI cA (wM h a1 a2 a3 a4 a5 a6 cA me tm hA rA lT jA pT cF)) (QcRead (bI (mFirst me (mNb tm hA)))) 0 0 (fun _ => False) := by
  refine Met.ofW (cc := cX1_isFirst) (maxL := 1) (ret := some .boolean) (by decide) rfl ?_
  intro p e s m args below meth c s₁ B hml hv
  obtain ⟨rfl, hP, hK⟩ := hv
  have hx := B.exec
  have hb := B.bytes
  have hr := B.returns
  have hts := atoms_spec (ws := wsX1_isFirst) B.pre
  have hown : s.vm.findClass RX1 = some m.cls := findClass_of_methodNamed B.named
  have hlocks := B.notSynchronized
  have S : CallFix p m c cX1_isFirst 1 s ([.ref h] : List Value).toArray wsX1_isFirst RX1 := ⟨hx, hb, hml, hown, hts⟩
  have hl := lv_entry ([.ref h]) (n := 1) (Nat.le_of_ble_eq_true rfl)
  rw [lg_entry_eq]
  generalize (lg_sl ([.ref h]) ++ List.replicate (1 - (lg_sl ([.ref h])).length) Slot.unset).toArray = ls at hl ⊢
  have hl : lv_has ls 1 [(0, .ref h)] := hl
  refine lv_aload_n hx hb dX1_isFirst_0 rfl (lv_at hl 0 rfl) ?_
  refine rd_V (As := []) (rest := []) (ci := 1) (qc := (RX1, TX1, 8)) S (c_X1_neighbours l dC dI h a1 a2 a3 a4 a5 a6 cA me tm hA rA lT jA pT cF) gX1_isFirst_X1_neighbours rfl ⟨rfl, rfl⟩ hd_X1_neighbours ⟨Nat.le_of_ble_eq_true rfl, Nat.le_of_ble_eq_true rfl⟩ hK hP rfl rfl rfl hl.1 rfl (Nat.le_of_ble_eq_true rfl) dX1_isFirst_1 ⟨Nat.le_of_ble_eq_true rfl, Nat.le_of_ble_eq_true rfl⟩ ?_
  refine lv_aload_n hx hb dX1_isFirst_4 rfl (lv_at hl 0 rfl) ?_
  refine va_get (D := (dC, dI)) (ci := 1) (v := .int me) (C := RX1) (T := TX1) (N := 8) hx hb hts iwsX1_isFirst hown hK hP 0 rfl rfl 0 (by decide) (hts (.fieldLink RX1 28 "BranchTimesModel" "me" "I") (by decide +kernel)) (fun _ h9 => h9) rfl dX1_isFirst_5 ?_
  refine lv_ishr hx hb dX1_isFirst_8 ?_
  refine lv_if_ne (tgt := 16) hx hb dX1_isFirst_9 (by decide) (fun c9 => ?_) (fun c9 => ?_)
  · refine lv_iconst (v := 0) hx hb dX1_isFirst_16 (by decide) ?_
    have er : (0 : Int32) = bI (mFirst me (mNb tm hA)) := by simp [mFirst, bI, c9]
    exact W.zret (v := (0 : Int32)) (ty := .boolean) hx hb hr rfl (fun t ht hW => ⟨congrArg (fun z => Outcome.returned (some (Value.int z))) er, ht⟩) (fun q h => absurd h List.not_mem_nil) dX1_isFirst_17
  · refine lv_iconst (v := 1) hx hb dX1_isFirst_12 (by decide) ?_
    refine lv_goto (tgt := 17) hx hb dX1_isFirst_13 (by decide) ?_
    have er : (1 : Int32) = bI (mFirst me (mNb tm hA)) := by simp [mFirst, bI, c9]
    exact W.zret (v := (1 : Int32)) (ty := .boolean) hx hb hr rfl (fun t ht hW => ⟨congrArg (fun z => Outcome.returned (some (Value.int z))) er, ht⟩) (fun q h => absurd h List.not_mem_nil) dX1_isFirst_17
theorem hd_X1_isFirst : yX1_isFirst.cls = RX1 ∧ yX1_isFirst.cls ≠ "java/lang/invoke/MethodHandle" ∧ yX1_isFirst.cls ≠ "java/lang/invoke/VarHandle" ∧ (parseMethodDescriptor yX1_isFirst.desc).map (fun d => d.parameters.length) = some 0 := by decide +kernel

theorem iwsX1_isAsking : ∀ w ∈ u_ws RX1 TX1 8, w ∈ wsX1_isAsking := fun _ h => List.mem_cons_of_mem _ (List.mem_append_right _ h)
set_option maxHeartbeats 4000000 in
set_option maxRecDepth 100000 in
theorem c_X1_isAsking (l : Launch) (dC : Nat → ClassId) (dI : Nat → Nat → Nat) (h a1 a2 a3 a4 a5 a6 : Nat) (cA : ClassId) (me tm : Int32) (hA rA lT jA pT cF : Nat → Int32) (hme : ¬ ((1 : Int32) <<< (me &&& 31)) = 0) : Met l yX1_isAsking wsX1_isAsking ({ frames := 1, cells := 0, slots := 0, locals := 22 }) (PR [.ref h] dC dI cA (wM h a1 a2 a3 a4 a5 a6 cA me tm hA rA lT jA pT cF)) (QcRead (bI (mAsk me (mNb tm hA)))) 0 0 (fun _ => False) := by
  refine Met.ofW (cc := cX1_isAsking) (maxL := 1) (ret := some .boolean) (by decide) rfl ?_
  intro p e s m args below meth c s₁ B hml hv
  obtain ⟨rfl, hP, hK⟩ := hv
  have hx := B.exec
  have hb := B.bytes
  have hr := B.returns
  have hts := atoms_spec (ws := wsX1_isAsking) B.pre
  have hown : s.vm.findClass RX1 = some m.cls := findClass_of_methodNamed B.named
  have hlocks := B.notSynchronized
  have S : CallFix p m c cX1_isAsking 1 s ([.ref h] : List Value).toArray wsX1_isAsking RX1 := ⟨hx, hb, hml, hown, hts⟩
  have hl := lv_entry ([.ref h]) (n := 1) (Nat.le_of_ble_eq_true rfl)
  rw [lg_entry_eq]
  generalize (lg_sl ([.ref h]) ++ List.replicate (1 - (lg_sl ([.ref h])).length) Slot.unset).toArray = ls at hl ⊢
  have hl : lv_has ls 1 [(0, .ref h)] := hl
  refine lv_aload_n hx hb dX1_isAsking_0 rfl (lv_at hl 0 rfl) ?_
  refine rd_V (As := []) (rest := []) (ci := 1) (qc := (RX1, TX1, 8)) S (c_X1_neighbours l dC dI h a1 a2 a3 a4 a5 a6 cA me tm hA rA lT jA pT cF) gX1_isAsking_X1_neighbours rfl ⟨rfl, rfl⟩ hd_X1_neighbours ⟨Nat.le_of_ble_eq_true rfl, Nat.le_of_ble_eq_true rfl⟩ hK hP rfl rfl rfl hl.1 rfl (Nat.le_of_ble_eq_true rfl) dX1_isAsking_1 ⟨Nat.le_of_ble_eq_true rfl, Nat.le_of_ble_eq_true rfl⟩ ?_
  refine lv_iconst (v := 1) hx hb dX1_isAsking_4 (by decide) ?_
  refine lv_aload_n hx hb dX1_isAsking_5 rfl (lv_at hl 0 rfl) ?_
  refine va_get (D := (dC, dI)) (ci := 1) (v := .int me) (C := RX1) (T := TX1) (N := 8) hx hb hts iwsX1_isAsking hown hK hP 0 rfl rfl 0 (by decide) (hts (.fieldLink RX1 28 "BranchTimesModel" "me" "I") (by decide +kernel)) (fun _ h9 => h9) rfl dX1_isAsking_6 ?_
  refine lv_ishl hx hb dX1_isAsking_9 ?_
  refine lv_irem hx hb dX1_isAsking_10 (hme) ?_
  refine lv_if_ne (tgt := 18) hx hb dX1_isAsking_11 (by decide) (fun c11 => ?_) (fun c11 => ?_)
  · refine lv_iconst (v := 0) hx hb dX1_isAsking_18 (by decide) ?_
    have er : (0 : Int32) = bI (mAsk me (mNb tm hA)) := by simp [mAsk, bI, c11]
    exact W.zret (v := (0 : Int32)) (ty := .boolean) hx hb hr rfl (fun t ht hW => ⟨congrArg (fun z => Outcome.returned (some (Value.int z))) er, ht⟩) (fun q h => absurd h List.not_mem_nil) dX1_isAsking_19
  · refine lv_iconst (v := 1) hx hb dX1_isAsking_14 (by decide) ?_
    refine lv_goto (tgt := 19) hx hb dX1_isAsking_15 (by decide) ?_
    have er : (1 : Int32) = bI (mAsk me (mNb tm hA)) := by simp [mAsk, bI, c11]
    exact W.zret (v := (1 : Int32)) (ty := .boolean) hx hb hr rfl (fun t ht hW => ⟨congrArg (fun z => Outcome.returned (some (Value.int z))) er, ht⟩) (fun q h => absurd h List.not_mem_nil) dX1_isAsking_19
theorem hd_X1_isAsking : yX1_isAsking.cls = RX1 ∧ yX1_isAsking.cls ≠ "java/lang/invoke/MethodHandle" ∧ yX1_isAsking.cls ≠ "java/lang/invoke/VarHandle" ∧ (parseMethodDescriptor yX1_isAsking.desc).map (fun d => d.parameters.length) = some 0 := by decide +kernel

theorem iwsX1_isCrowded : ∀ w ∈ u_ws RX1 TX1 8, w ∈ wsX1_isCrowded := fun _ h => List.mem_cons_of_mem _ (List.mem_append_right _ h)
set_option maxHeartbeats 4000000 in
set_option maxRecDepth 100000 in
theorem lp_X1_isCrowded {p : Program} {e : Env} {s : State} {m : MethodId} {args : Array Value} {below : List Frame} {meth : Method} {c : Code} {R : Room} {cells slots : Nat} {Q : State → Prop} {H : Heap} {locs : List Loc} (l : Launch) (h T : Nat) (S : CallFix p m c cX1_isCrowded 3 s args wsX1_isCrowded RX1) (k : ∀ (ls : Array Slot) (x2 : Int32), lv_has ls 3 [(0, .ref h), (1, .int (nI T)), (2, .int x2)] → W p l e R s m args below meth c H locs cells slots Q (F0 m 24 ls [])) : ∀ (n a b : Nat), b < 2 ^ n → n ≤ 30 → a + mCntN n b = T → ∀ (ls : Array Slot), lv_has ls 3 [(0, .ref h), (1, .int (nI a)), (2, .int (nI b))] → W p l e R s m args below meth c H locs cells slots Q (F0 m 7 ls []) := by
  obtain ⟨hx, hb, hml, hown, hts⟩ := id S
  intro n
  induction n with
  | zero =>
    intro a b hlt hn hT ls hl
    obtain rfl : b = 0 := by simpa using hlt
    obtain rfl : a = T := hT
    refine lv_iload_n hx hb dX1_isCrowded_7 rfl (lv_at hl 2 rfl) ?_
    refine lv_if_eq (tgt := 24) hx hb dX1_isCrowded_8 (by decide) (fun c8 => ?_) (fun c8 => ?_)
    · exact k ls _ hl
    · exact absurd nI_0 c8
  | succ n ih =>
    intro a b hlt hn hT ls hl
    have hp : 2 ^ (n + 1) ≤ 2 ^ 30 := Nat.pow_le_pow_right (by decide) hn
    have hb31 : b < 2 ^ 31 := by omega
    refine lv_iload_n hx hb dX1_isCrowded_7 rfl (lv_at hl 2 rfl) ?_
    refine lv_if_eq (tgt := 24) hx hb dX1_isCrowded_8 (by decide) (fun c8 => ?_) (fun c8 => ?_)
    · have hb0 : b = 0 := (nI_eq hb31 (by decide)).mp (c8.trans nI_0.symm)
      subst hb0
      rw [mCnt0, Nat.add_zero] at hT
      subst hT
      exact k ls _ hl
    · refine lv_iload_n hx hb dX1_isCrowded_11 rfl (lv_at hl 1 rfl) ?_
      refine lv_iload_n hx hb dX1_isCrowded_12 rfl (lv_at hl 2 rfl) ?_
      refine lv_iconst (v := 2) hx hb dX1_isCrowded_13 (by decide) ?_
      refine lv_irem hx hb dX1_isCrowded_14 (by decide) ?_
      refine lv_top (x' := nI (b % 2)) (pk_rem (d := 2) hb31 (by decide) (by decide)) ?_
      refine lv_iadd hx hb dX1_isCrowded_15 ?_
      refine lv_top (x' := nI (a + b % 2)) (nI_add _ _) ?_
      refine lv_istore_n (lv' := [(1, .int (nI (a + b % 2))), (0, .ref h), (2, .int (nI b))]) hx hb dX1_isCrowded_16 rfl hl (by decide) rfl (fun ls hl => ?_)
      refine lv_iload_n hx hb dX1_isCrowded_17 rfl (lv_at hl 2 rfl) ?_
      refine lv_iconst (v := 2) hx hb dX1_isCrowded_18 (by decide) ?_
      refine lv_idiv hx hb dX1_isCrowded_19 (by decide) ?_
      refine lv_top (x' := nI (b / 2)) (pk_div (d := 2) hb31 (by decide) (by decide)) ?_
      refine lv_istore_n (lv' := [(2, .int (nI (b / 2))), (1, .int (nI (a + b % 2))), (0, .ref h)]) hx hb dX1_isCrowded_20 rfl hl (by decide) rfl (fun ls hl => ?_)
      refine lv_goto (tgt := 7) hx hb dX1_isCrowded_21 (by decide) ?_
      have h2 : 2 ^ (n + 1) = 2 ^ n + 2 ^ n := by rw [Nat.pow_succ]; omega
      exact ih (a + b % 2) (b / 2) (by omega) (by omega) (by rw [← hT]; show a + b % 2 + mCntN n (b / 2) = a + (b % 2 + mCntN n (b / 2)); omega) ls (lv_sub hl [2, 1, 0] rfl)
set_option maxHeartbeats 4000000 in
set_option maxRecDepth 100000 in
theorem c_X1_isCrowded (l : Launch) (dC : Nat → ClassId) (dI : Nat → Nat → Nat) (h a1 a2 a3 a4 a5 a6 : Nat) (cA : ClassId) (me tm : Int32) (hA rA lT jA pT cF : Nat → Int32) : Met l yX1_isCrowded wsX1_isCrowded ({ frames := 1, cells := 0, slots := 0, locals := 22 }) (PR [.ref h] dC dI cA (wM h a1 a2 a3 a4 a5 a6 cA me tm hA rA lT jA pT cF)) (QcRead (bI (mCrowd (mNb tm hA)))) 0 0 (fun _ => False) := by
  refine Met.ofW (cc := cX1_isCrowded) (maxL := 3) (ret := some .boolean) (by decide) rfl ?_
  intro p e s m args below meth c s₁ B hml hv
  obtain ⟨rfl, hP, hK⟩ := hv
  have hx := B.exec
  have hb := B.bytes
  have hr := B.returns
  have hts := atoms_spec (ws := wsX1_isCrowded) B.pre
  have hown : s.vm.findClass RX1 = some m.cls := findClass_of_methodNamed B.named
  have hlocks := B.notSynchronized
  have S : CallFix p m c cX1_isCrowded 3 s ([.ref h] : List Value).toArray wsX1_isCrowded RX1 := ⟨hx, hb, hml, hown, hts⟩
  have hl := lv_entry ([.ref h]) (n := 3) (Nat.le_of_ble_eq_true rfl)
  rw [lg_entry_eq]
  generalize (lg_sl ([.ref h]) ++ List.replicate (3 - (lg_sl ([.ref h])).length) Slot.unset).toArray = ls at hl ⊢
  have hl : lv_has ls 3 [(0, .ref h)] := hl
  obtain ⟨b, hb10, eb⟩ := bitsI_nat (mNbq tm hA) 10 (by decide)
  have eb : mNb tm hA = nI b := eb
  have hcl : (nI b).toNatClampNeg = b := nI_clamp (by omega)
  refine lv_iconst (v := 0) hx hb dX1_isCrowded_0 (by decide) ?_
  refine lv_istore_n (lv' := [(1, .int 0), (0, .ref h)]) hx hb dX1_isCrowded_1 rfl hl (by decide) rfl (fun ls hl => ?_)
  refine lv_aload_n hx hb dX1_isCrowded_2 rfl (lv_at hl 1 rfl) ?_
  refine rd_V (As := []) (rest := []) (ci := 1) (qc := (RX1, TX1, 8)) S (c_X1_neighbours l dC dI h a1 a2 a3 a4 a5 a6 cA me tm hA rA lT jA pT cF) gX1_isCrowded_X1_neighbours rfl ⟨rfl, rfl⟩ hd_X1_neighbours ⟨Nat.le_of_ble_eq_true rfl, Nat.le_of_ble_eq_true rfl⟩ hK hP rfl rfl rfl hl.1 rfl (Nat.le_of_ble_eq_true rfl) dX1_isCrowded_3 ⟨Nat.le_of_ble_eq_true rfl, Nat.le_of_ble_eq_true rfl⟩ ?_
  refine lv_top (x' := nI b) eb ?_
  refine lv_istore_n (lv' := [(2, .int (nI b)), (1, .int 0), (0, .ref h)]) hx hb dX1_isCrowded_6 rfl hl (by decide) rfl (fun ls hl => ?_)
  refine lp_X1_isCrowded l h (mCntN 10 b) S (fun ls x2 hl => ?_) 10 0 b hb10 (by decide) (Nat.zero_add _) ls (lv_sub hl [2, 1, 0] rfl)
  have ec : mCrowd (mNb tm hA) = !decide (nI (mCntN 10 b) ≤ 1) := by unfold mCrowd; rw [eb, hcl]
  refine lv_iload_n hx hb dX1_isCrowded_24 rfl (lv_at hl 1 rfl) ?_
  refine lv_iconst (v := 1) hx hb dX1_isCrowded_25 (by decide) ?_
  refine lv_icmp_le (tgt := 33) hx hb dX1_isCrowded_26 (by decide) (fun c26 => ?_) (fun c26 => ?_)
  · refine lv_iconst (v := 0) hx hb dX1_isCrowded_33 (by decide) ?_
    have er : (0 : Int32) = bI (mCrowd (mNb tm hA)) := bI_0 (by rw [ec]; simp [c26])
    exact W.zret (v := (0 : Int32)) (ty := .boolean) hx hb hr rfl (fun t ht hW => ⟨congrArg (fun z => Outcome.returned (some (Value.int z))) er, ht⟩) (fun q h => absurd h List.not_mem_nil) dX1_isCrowded_34
  · refine lv_iconst (v := 1) hx hb dX1_isCrowded_29 (by decide) ?_
    refine lv_goto (tgt := 34) hx hb dX1_isCrowded_30 (by decide) ?_
    have er : (1 : Int32) = bI (mCrowd (mNb tm hA)) := bI_1 (by rw [ec]; simp [c26])
    exact W.zret (v := (1 : Int32)) (ty := .boolean) hx hb hr rfl (fun t ht hW => ⟨congrArg (fun z => Outcome.returned (some (Value.int z))) er, ht⟩) (fun q h => absurd h List.not_mem_nil) dX1_isCrowded_34
theorem hd_X1_isCrowded : yX1_isCrowded.cls = RX1 ∧ yX1_isCrowded.cls ≠ "java/lang/invoke/MethodHandle" ∧ yX1_isCrowded.cls ≠ "java/lang/invoke/VarHandle" ∧ (parseMethodDescriptor yX1_isCrowded.desc).map (fun d => d.parameters.length) = some 0 := by decide +kernel

theorem iwsX1_memberTill : ∀ w ∈ u_ws RX1 TX1 8, w ∈ wsX1_memberTill := fun _ h => List.mem_cons_of_mem _ (List.mem_append_right _ h)
set_option maxHeartbeats 4000000 in
set_option maxRecDepth 100000 in
theorem c_X1_memberTill (l : Launch) (dC : Nat → ClassId) (dI : Nat → Nat → Nat) (h a1 a2 a3 a4 a5 a6 : Nat) (cA : ClassId) (me tm : Int32) (hA rA lT jA pT cF : Nat → Int32) (g : Int32) (hg : xG g = true) : Met l yX1_memberTill wsX1_memberTill ({ frames := 0, cells := 0, slots := 0, locals := 0 }) (PR [.ref h, .int g] dC dI cA (wM h a1 a2 a3 a4 a5 a6 cA me tm hA rA lT jA pT cF)) (QcRead (mMt tm rA lT g)) 0 0 (fun _ => False) := by
  refine Met.ofW (cc := cX1_memberTill) (maxL := 3) (ret := some .int) (by decide) rfl ?_
  intro p e s m args below meth c s₁ B hml hv
  obtain ⟨rfl, hP, hK⟩ := hv
  have hx := B.exec
  have hb := B.bytes
  have hr := B.returns
  have hts := atoms_spec (ws := wsX1_memberTill) B.pre
  have hown : s.vm.findClass RX1 = some m.cls := findClass_of_methodNamed B.named
  have hlocks := B.notSynchronized
  have S : CallFix p m c cX1_memberTill 3 s ([.ref h, .int g] : List Value).toArray wsX1_memberTill RX1 := ⟨hx, hb, hml, hown, hts⟩
  have hl := lv_entry ([.ref h, .int g]) (n := 3) (Nat.le_of_ble_eq_true rfl)
  rw [lg_entry_eq]
  generalize (lg_sl ([.ref h, .int g]) ++ List.replicate (3 - (lg_sl ([.ref h, .int g])).length) Slot.unset).toArray = ls at hl ⊢
  have hl : lv_has ls 3 [(0, .ref h), (1, .int g)] := hl
  refine lv_aload_n hx hb dX1_memberTill_0 rfl (lv_at hl 0 rfl) ?_
  refine va_get (D := (dC, dI)) (ci := 1) (v := .ref a2) (C := RX1) (T := TX1) (N := 8) hx hb hts iwsX1_memberTill hown hK hP 0 rfl rfl 3 (by decide) (hts (.fieldLink RX1 13 "BranchTimesModel" "reportAt" "[I") (by decide +kernel)) (fun _ h9 => h9) rfl dX1_memberTill_1 ?_
  refine lv_iload_n hx hb dX1_memberTill_4 rfl (lv_at hl 1 rfl) ?_
  refine va_iald (D := (dC, dI)) hx hb hK hP 2 0 rfl rfl (G_in hg) dX1_memberTill_5 ?_
  refine lv_iconst (v := -1) hx hb dX1_memberTill_6 (by decide) ?_
  refine lv_icmp_ne (tgt := 12) hx hb dX1_memberTill_7 (by decide) (fun c7 => ?_) (fun c7 => ?_)
  · refine lv_aload_n hx hb dX1_memberTill_12 rfl (lv_at hl 0 rfl) ?_
    refine va_get (D := (dC, dI)) (ci := 1) (v := .ref a2) (C := RX1) (T := TX1) (N := 8) hx hb hts iwsX1_memberTill hown hK hP 0 rfl rfl 3 (by decide) (hts (.fieldLink RX1 13 "BranchTimesModel" "reportAt" "[I") (by decide +kernel)) (fun _ h9 => h9) rfl dX1_memberTill_13 ?_
    refine lv_iload_n hx hb dX1_memberTill_16 rfl (lv_at hl 1 rfl) ?_
    refine va_iald (D := (dC, dI)) hx hb hK hP 2 0 rfl rfl (G_in hg) dX1_memberTill_17 ?_
    refine lv_bipush (v := 60) hx hb dX1_memberTill_18 (by decide) ?_
    refine lv_iadd hx hb dX1_memberTill_20 ?_
    refine lv_istore_n (lv' := [(2, .int ((rA g.toNatClampNeg) + ((60 : Int32)))), (0, .ref h), (1, .int g)]) hx hb dX1_memberTill_21 rfl hl (by decide) rfl (fun ls hl => ?_)
    refine lv_aload_n hx hb dX1_memberTill_22 rfl (lv_at hl 1 rfl) ?_
    refine va_get (D := (dC, dI)) (ci := 1) (v := .ref a3) (C := RX1) (T := TX1) (N := 8) hx hb hts iwsX1_memberTill hown hK hP 0 rfl rfl 4 (by decide) (hts (.fieldLink RX1 16 "BranchTimesModel" "leftTill" "[I") (by decide +kernel)) (fun _ h9 => h9) rfl dX1_memberTill_23 ?_
    refine lv_iload_n hx hb dX1_memberTill_26 rfl (lv_at hl 2 rfl) ?_
    refine va_iald (D := (dC, dI)) hx hb hK hP 3 0 rfl rfl (G_in hg) dX1_memberTill_27 ?_
    refine lv_iload_n hx hb dX1_memberTill_28 rfl (lv_at hl 0 rfl) ?_
    refine lv_icmp_ge (tgt := 41) hx hb dX1_memberTill_29 (by decide) (fun c29 => ?_) (fun c29 => ?_)
    · refine lv_iload_n hx hb dX1_memberTill_41 rfl (lv_at hl 0 rfl) ?_
      refine lv_istore_n (lv' := [(2, .int ((rA g.toNatClampNeg) + ((60 : Int32)))), (0, .ref h), (1, .int g)]) hx hb dX1_memberTill_42 rfl hl (by decide) rfl (fun ls hl => ?_)
      refine lv_aload_n hx hb dX1_memberTill_43 rfl (lv_at hl 1 rfl) ?_
      refine va_get (D := (dC, dI)) (ci := 1) (v := .int tm) (C := RX1) (T := TX1) (N := 8) hx hb hts iwsX1_memberTill hown hK hP 0 rfl rfl 1 (by decide) (hts (.fieldLink RX1 39 "BranchTimesModel" "time" "I") (by decide +kernel)) (fun _ h9 => h9) rfl dX1_memberTill_44 ?_
      refine lv_iload_n hx hb dX1_memberTill_47 rfl (lv_at hl 0 rfl) ?_
      refine lv_icmp_ge (tgt := 55) hx hb dX1_memberTill_48 (by decide) (fun c48 => ?_) (fun c48 => ?_)
      · refine lv_iconst (v := 0) hx hb dX1_memberTill_55 (by decide) ?_
        have er : (0 : Int32) = mMt tm rA lT g := by simp [mMt, mT, c7, c29, c48]
        exact W.iret (v := (0 : Int32)) hx hb hr (fun t ht hW => ⟨congrArg (fun z => Outcome.returned (some (Value.int z))) er, ht⟩) (fun q h => absurd h List.not_mem_nil) dX1_memberTill_56
      · refine lv_iload_n hx hb dX1_memberTill_51 rfl (lv_at hl 0 rfl) ?_
        refine lv_goto (tgt := 56) hx hb dX1_memberTill_52 (by decide) ?_
        have er : (rA g.toNatClampNeg) + ((60 : Int32)) = mMt tm rA lT g := by simp [mMt, mT, c7, c29, c48]
        exact W.iret (v := (rA g.toNatClampNeg) + ((60 : Int32))) hx hb hr (fun t ht hW => ⟨congrArg (fun z => Outcome.returned (some (Value.int z))) er, ht⟩) (fun q h => absurd h List.not_mem_nil) dX1_memberTill_56
    · refine lv_aload_n hx hb dX1_memberTill_32 rfl (lv_at hl 1 rfl) ?_
      refine va_get (D := (dC, dI)) (ci := 1) (v := .ref a3) (C := RX1) (T := TX1) (N := 8) hx hb hts iwsX1_memberTill hown hK hP 0 rfl rfl 4 (by decide) (hts (.fieldLink RX1 16 "BranchTimesModel" "leftTill" "[I") (by decide +kernel)) (fun _ h9 => h9) rfl dX1_memberTill_33 ?_
      refine lv_iload_n hx hb dX1_memberTill_36 rfl (lv_at hl 2 rfl) ?_
      refine va_iald (D := (dC, dI)) hx hb hK hP 3 0 rfl rfl (G_in hg) dX1_memberTill_37 ?_
      refine lv_goto (tgt := 42) hx hb dX1_memberTill_38 (by decide) ?_
      refine lv_istore_n (lv' := [(2, .int (lT g.toNatClampNeg)), (0, .ref h), (1, .int g)]) hx hb dX1_memberTill_42 rfl hl (by decide) rfl (fun ls hl => ?_)
      refine lv_aload_n hx hb dX1_memberTill_43 rfl (lv_at hl 1 rfl) ?_
      refine va_get (D := (dC, dI)) (ci := 1) (v := .int tm) (C := RX1) (T := TX1) (N := 8) hx hb hts iwsX1_memberTill hown hK hP 0 rfl rfl 1 (by decide) (hts (.fieldLink RX1 39 "BranchTimesModel" "time" "I") (by decide +kernel)) (fun _ h9 => h9) rfl dX1_memberTill_44 ?_
      refine lv_iload_n hx hb dX1_memberTill_47 rfl (lv_at hl 0 rfl) ?_
      refine lv_icmp_ge (tgt := 55) hx hb dX1_memberTill_48 (by decide) (fun c48 => ?_) (fun c48 => ?_)
      · refine lv_iconst (v := 0) hx hb dX1_memberTill_55 (by decide) ?_
        have er : (0 : Int32) = mMt tm rA lT g := by simp [mMt, mT, c7, c29, c48]
        exact W.iret (v := (0 : Int32)) hx hb hr (fun t ht hW => ⟨congrArg (fun z => Outcome.returned (some (Value.int z))) er, ht⟩) (fun q h => absurd h List.not_mem_nil) dX1_memberTill_56
      · refine lv_iload_n hx hb dX1_memberTill_51 rfl (lv_at hl 0 rfl) ?_
        refine lv_goto (tgt := 56) hx hb dX1_memberTill_52 (by decide) ?_
        have er : lT g.toNatClampNeg = mMt tm rA lT g := by simp [mMt, mT, c7, c29, c48]
        exact W.iret (v := lT g.toNatClampNeg) hx hb hr (fun t ht hW => ⟨congrArg (fun z => Outcome.returned (some (Value.int z))) er, ht⟩) (fun q h => absurd h List.not_mem_nil) dX1_memberTill_56
  · refine lv_iconst (v := 0) hx hb dX1_memberTill_10 (by decide) ?_
    have er : (0 : Int32) = mMt tm rA lT g := by simp [mMt, mT, c7]
    exact W.iret (v := (0 : Int32)) hx hb hr (fun t ht hW => ⟨congrArg (fun z => Outcome.returned (some (Value.int z))) er, ht⟩) (fun q h => absurd h List.not_mem_nil) dX1_memberTill_11
theorem hd_X1_memberTill : yX1_memberTill.cls = RX1 ∧ yX1_memberTill.cls ≠ "java/lang/invoke/MethodHandle" ∧ yX1_memberTill.cls ≠ "java/lang/invoke/VarHandle" ∧ (parseMethodDescriptor yX1_memberTill.desc).map (fun d => d.parameters.length) = some 1 := by decide +kernel

theorem iwsX1_members : ∀ w ∈ u_ws RX1 TX1 8, w ∈ wsX1_members := fun _ h => List.mem_cons_of_mem _ (List.mem_append_right _ h)
set_option maxHeartbeats 4000000 in
set_option maxRecDepth 100000 in
theorem c_X1_members (l : Launch) (dC : Nat → ClassId) (dI : Nat → Nat → Nat) (h a1 a2 a3 a4 a5 a6 : Nat) (cA : ClassId) (me tm : Int32) (hA rA lT jA pT cF : Nat → Int32) (g : Int32) : Met l yX1_members wsX1_members ({ frames := 1, cells := 0, slots := 0, locals := 22 }) (PR [.ref h, .int g] dC dI cA (wM h a1 a2 a3 a4 a5 a6 cA me tm hA rA lT jA pT cF)) (QcRead (mMe tm rA lT g)) 0 0 (fun _ => False) := by
  refine Met.ofW (cc := cX1_members) (maxL := 2) (ret := some .int) (by decide) rfl ?_
  intro p e s m args below meth c s₁ B hml hv
  obtain ⟨rfl, hP, hK⟩ := hv
  have hx := B.exec
  have hb := B.bytes
  have hr := B.returns
  have hts := atoms_spec (ws := wsX1_members) B.pre
  have hown : s.vm.findClass RX1 = some m.cls := findClass_of_methodNamed B.named
  have hlocks := B.notSynchronized
  have S : CallFix p m c cX1_members 2 s ([.ref h, .int g] : List Value).toArray wsX1_members RX1 := ⟨hx, hb, hml, hown, hts⟩
  have hl := lv_entry ([.ref h, .int g]) (n := 2) (Nat.le_of_ble_eq_true rfl)
  rw [lg_entry_eq]
  generalize (lg_sl ([.ref h, .int g]) ++ List.replicate (2 - (lg_sl ([.ref h, .int g])).length) Slot.unset).toArray = ls at hl ⊢
  have hl : lv_has ls 2 [(0, .ref h), (1, .int g)] := hl
  refine lv_iload_n hx hb dX1_members_0 rfl (lv_at hl 1 rfl) ?_
  refine rd_S (As := [.int g]) (rest := []) S (c_X1_isGroup l g) gX1_members_X1_isGroup rfl ⟨rfl, rfl⟩ hd_X1_isGroup ⟨Nat.le_of_ble_eq_true rfl, Nat.le_of_ble_eq_true rfl⟩ rfl hl.1 rfl (Nat.le_of_ble_eq_true rfl) dX1_members_1 ⟨Nat.le_of_ble_eq_true rfl, Nat.le_of_ble_eq_true rfl⟩ ?_
  refine lv_if_eq (tgt := 15) hx hb dX1_members_4 (by decide) (fun c4 => ?_) (fun c4 => ?_)
  · have b4 := bI_z c4
    refine lv_iconst (v := -1) hx hb dX1_members_15 (by decide) ?_
    have er : (-1 : Int32) = mMe tm rA lT g := by simp [mMe, b4]
    exact W.iret (v := (-1 : Int32)) hx hb hr (fun t ht hW => ⟨congrArg (fun z => Outcome.returned (some (Value.int z))) er, ht⟩) (fun q h => absurd h List.not_mem_nil) dX1_members_16
  · have b4 := bI_nz c4
    refine lv_aload_n hx hb dX1_members_7 rfl (lv_at hl 0 rfl) ?_
    refine lv_iload_n hx hb dX1_members_8 rfl (lv_at hl 1 rfl) ?_
    refine rd_V (As := [.int g]) (rest := []) (ci := 1) (qc := (RX1, TX1, 8)) S (c_X1_memberTill l dC dI h a1 a2 a3 a4 a5 a6 cA me tm hA rA lT jA pT cF g b4) gX1_members_X1_memberTill rfl ⟨rfl, rfl⟩ hd_X1_memberTill ⟨Nat.le_of_ble_eq_true rfl, Nat.le_of_ble_eq_true rfl⟩ hK hP rfl rfl rfl hl.1 rfl (Nat.le_of_ble_eq_true rfl) dX1_members_9 ⟨Nat.le_of_ble_eq_true rfl, Nat.le_of_ble_eq_true rfl⟩ ?_
    refine lv_goto (tgt := 16) hx hb dX1_members_12 (by decide) ?_
    have er : mMt tm rA lT g = mMe tm rA lT g := by simp [mMe, b4]
    exact W.iret (v := mMt tm rA lT g) hx hb hr (fun t ht hW => ⟨congrArg (fun z => Outcome.returned (some (Value.int z))) er, ht⟩) (fun q h => absurd h List.not_mem_nil) dX1_members_16
theorem hd_X1_members : yX1_members.cls = RX1 ∧ yX1_members.cls ≠ "java/lang/invoke/MethodHandle" ∧ yX1_members.cls ≠ "java/lang/invoke/VarHandle" ∧ (parseMethodDescriptor yX1_members.desc).map (fun d => d.parameters.length) = some 1 := by decide +kernel

theorem iwsX1_till : ∀ w ∈ u_ws RX1 TX1 8, w ∈ wsX1_till := fun _ h => List.mem_cons_of_mem _ (List.mem_append_right _ h)
set_option maxHeartbeats 4000000 in
set_option maxRecDepth 100000 in
theorem c_X1_till (l : Launch) (dC : Nat → ClassId) (dI : Nat → Nat → Nat) (h a1 a2 a3 a4 a5 a6 : Nat) (cA : ClassId) (me tm : Int32) (hA rA lT jA pT cF : Nat → Int32) (g q : Int32) (hbr : mBr g q = true) : Met l yX1_till wsX1_till ({ frames := 0, cells := 0, slots := 0, locals := 0 }) (PR [.ref h, .int g, .int q] dC dI cA (wM h a1 a2 a3 a4 a5 a6 cA me tm hA rA lT jA pT cF)) (QcRead (mTi tm jA pT g q)) 0 0 (fun _ => False) := by
  refine Met.ofW (cc := cX1_till) (maxL := 5) (ret := some .int) (by decide) rfl ?_
  intro p e s m args below meth c s₁ B hml hv
  obtain ⟨rfl, hP, hK⟩ := hv
  have hx := B.exec
  have hb := B.bytes
  have hr := B.returns
  have hts := atoms_spec (ws := wsX1_till) B.pre
  have hown : s.vm.findClass RX1 = some m.cls := findClass_of_methodNamed B.named
  have hlocks := B.notSynchronized
  have S : CallFix p m c cX1_till 5 s ([.ref h, .int g, .int q] : List Value).toArray wsX1_till RX1 := ⟨hx, hb, hml, hown, hts⟩
  have hl := lv_entry ([.ref h, .int g, .int q]) (n := 5) (Nat.le_of_ble_eq_true rfl)
  rw [lg_entry_eq]
  generalize (lg_sl ([.ref h, .int g, .int q]) ++ List.replicate (5 - (lg_sl ([.ref h, .int g, .int q])).length) Slot.unset).toArray = ls at hl ⊢
  have hl : lv_has ls 5 [(0, .ref h), (1, .int g), (2, .int q)] := hl
  refine lv_bipush (v := 17) hx hb dX1_till_0 (by decide) ?_
  refine lv_iload_n hx hb dX1_till_2 rfl (lv_at hl 1 rfl) ?_
  refine lv_imul hx hb dX1_till_3 ?_
  refine lv_iload_n hx hb dX1_till_4 rfl (lv_at hl 2 rfl) ?_
  refine lv_iadd hx hb dX1_till_5 ?_
  refine lv_iconst (v := 1) hx hb dX1_till_6 (by decide) ?_
  refine lv_iadd hx hb dX1_till_7 ?_
  refine lv_top (x' := mPl g q) (rfl) ?_
  refine lv_istore_n (lv' := [(3, .int (mPl g q)), (0, .ref h), (1, .int g), (2, .int q)]) hx hb dX1_till_8 rfl hl (by decide) rfl (fun ls hl => ?_)
  refine lv_aload_n hx hb dX1_till_9 rfl (lv_at hl 1 rfl) ?_
  refine va_get (D := (dC, dI)) (ci := 1) (v := .ref a4) (C := RX1) (T := TX1) (N := 8) hx hb hts iwsX1_till hown hK hP 0 rfl rfl 5 (by decide) (hts (.fieldLink RX1 19 "BranchTimesModel" "joinAt" "[I") (by decide +kernel)) (fun _ h9 => h9) rfl dX1_till_10 ?_
  refine lv_iload_n hx hb dX1_till_13 rfl (lv_at hl 0 rfl) ?_
  refine va_iald (D := (dC, dI)) hx hb hK hP 4 0 rfl rfl (mPl_in hbr) dX1_till_14 ?_
  refine lv_iconst (v := -1) hx hb dX1_till_15 (by decide) ?_
  refine lv_icmp_ne (tgt := 21) hx hb dX1_till_16 (by decide) (fun c16 => ?_) (fun c16 => ?_)
  · refine lv_aload_n hx hb dX1_till_21 rfl (lv_at hl 1 rfl) ?_
    refine va_get (D := (dC, dI)) (ci := 1) (v := .ref a4) (C := RX1) (T := TX1) (N := 8) hx hb hts iwsX1_till hown hK hP 0 rfl rfl 5 (by decide) (hts (.fieldLink RX1 19 "BranchTimesModel" "joinAt" "[I") (by decide +kernel)) (fun _ h9 => h9) rfl dX1_till_22 ?_
    refine lv_iload_n hx hb dX1_till_25 rfl (lv_at hl 0 rfl) ?_
    refine va_iald (D := (dC, dI)) hx hb hK hP 4 0 rfl rfl (mPl_in hbr) dX1_till_26 ?_
    refine lv_bipush (v := 70) hx hb dX1_till_27 (by decide) ?_
    refine lv_iadd hx hb dX1_till_29 ?_
    refine lv_istore (lv' := [(4, .int ((jA (mPl g q).toNatClampNeg) + ((70 : Int32)))), (3, .int (mPl g q)), (0, .ref h), (1, .int g), (2, .int q)]) hx hb dX1_till_30 hl (by decide) rfl (fun ls hl => ?_)
    refine lv_aload_n hx hb dX1_till_32 rfl (lv_at hl 2 rfl) ?_
    refine va_get (D := (dC, dI)) (ci := 1) (v := .ref a5) (C := RX1) (T := TX1) (N := 8) hx hb hts iwsX1_till hown hK hP 0 rfl rfl 6 (by decide) (hts (.fieldLink RX1 22 "BranchTimesModel" "prunedTill" "[I") (by decide +kernel)) (fun _ h9 => h9) rfl dX1_till_33 ?_
    refine lv_iload_n hx hb dX1_till_36 rfl (lv_at hl 1 rfl) ?_
    refine va_iald (D := (dC, dI)) hx hb hK hP 5 0 rfl rfl (mPl_in hbr) dX1_till_37 ?_
    refine lv_iload hx hb dX1_till_38 (lv_at hl 0 rfl) ?_
    refine lv_icmp_ge (tgt := 52) hx hb dX1_till_40 (by decide) (fun c40 => ?_) (fun c40 => ?_)
    · refine lv_iload hx hb dX1_till_52 (lv_at hl 0 rfl) ?_
      refine lv_istore (lv' := [(4, .int ((jA (mPl g q).toNatClampNeg) + ((70 : Int32)))), (3, .int (mPl g q)), (0, .ref h), (1, .int g), (2, .int q)]) hx hb dX1_till_54 hl (by decide) rfl (fun ls hl => ?_)
      refine lv_aload_n hx hb dX1_till_56 rfl (lv_at hl 2 rfl) ?_
      refine va_get (D := (dC, dI)) (ci := 1) (v := .int tm) (C := RX1) (T := TX1) (N := 8) hx hb hts iwsX1_till hown hK hP 0 rfl rfl 1 (by decide) (hts (.fieldLink RX1 39 "BranchTimesModel" "time" "I") (by decide +kernel)) (fun _ h9 => h9) rfl dX1_till_57 ?_
      refine lv_iload hx hb dX1_till_60 (lv_at hl 0 rfl) ?_
      refine lv_icmp_ge (tgt := 70) hx hb dX1_till_62 (by decide) (fun c62 => ?_) (fun c62 => ?_)
      · refine lv_iconst (v := 0) hx hb dX1_till_70 (by decide) ?_
        have er : (0 : Int32) = mTi tm jA pT g q := by simp [mTi, mT, c16, c40, c62]
        exact W.iret (v := (0 : Int32)) hx hb hr (fun t ht hW => ⟨congrArg (fun z => Outcome.returned (some (Value.int z))) er, ht⟩) (fun q h => absurd h List.not_mem_nil) dX1_till_71
      · refine lv_iload hx hb dX1_till_65 (lv_at hl 0 rfl) ?_
        refine lv_goto (tgt := 71) hx hb dX1_till_67 (by decide) ?_
        have er : (jA (mPl g q).toNatClampNeg) + ((70 : Int32)) = mTi tm jA pT g q := by simp [mTi, mT, c16, c40, c62]
        exact W.iret (v := (jA (mPl g q).toNatClampNeg) + ((70 : Int32))) hx hb hr (fun t ht hW => ⟨congrArg (fun z => Outcome.returned (some (Value.int z))) er, ht⟩) (fun q h => absurd h List.not_mem_nil) dX1_till_71
    · refine lv_aload_n hx hb dX1_till_43 rfl (lv_at hl 2 rfl) ?_
      refine va_get (D := (dC, dI)) (ci := 1) (v := .ref a5) (C := RX1) (T := TX1) (N := 8) hx hb hts iwsX1_till hown hK hP 0 rfl rfl 6 (by decide) (hts (.fieldLink RX1 22 "BranchTimesModel" "prunedTill" "[I") (by decide +kernel)) (fun _ h9 => h9) rfl dX1_till_44 ?_
      refine lv_iload_n hx hb dX1_till_47 rfl (lv_at hl 1 rfl) ?_
      refine va_iald (D := (dC, dI)) hx hb hK hP 5 0 rfl rfl (mPl_in hbr) dX1_till_48 ?_
      refine lv_goto (tgt := 54) hx hb dX1_till_49 (by decide) ?_
      refine lv_istore (lv' := [(4, .int (pT (mPl g q).toNatClampNeg)), (3, .int (mPl g q)), (0, .ref h), (1, .int g), (2, .int q)]) hx hb dX1_till_54 hl (by decide) rfl (fun ls hl => ?_)
      refine lv_aload_n hx hb dX1_till_56 rfl (lv_at hl 2 rfl) ?_
      refine va_get (D := (dC, dI)) (ci := 1) (v := .int tm) (C := RX1) (T := TX1) (N := 8) hx hb hts iwsX1_till hown hK hP 0 rfl rfl 1 (by decide) (hts (.fieldLink RX1 39 "BranchTimesModel" "time" "I") (by decide +kernel)) (fun _ h9 => h9) rfl dX1_till_57 ?_
      refine lv_iload hx hb dX1_till_60 (lv_at hl 0 rfl) ?_
      refine lv_icmp_ge (tgt := 70) hx hb dX1_till_62 (by decide) (fun c62 => ?_) (fun c62 => ?_)
      · refine lv_iconst (v := 0) hx hb dX1_till_70 (by decide) ?_
        have er : (0 : Int32) = mTi tm jA pT g q := by simp [mTi, mT, c16, c40, c62]
        exact W.iret (v := (0 : Int32)) hx hb hr (fun t ht hW => ⟨congrArg (fun z => Outcome.returned (some (Value.int z))) er, ht⟩) (fun q h => absurd h List.not_mem_nil) dX1_till_71
      · refine lv_iload hx hb dX1_till_65 (lv_at hl 0 rfl) ?_
        refine lv_goto (tgt := 71) hx hb dX1_till_67 (by decide) ?_
        have er : pT (mPl g q).toNatClampNeg = mTi tm jA pT g q := by simp [mTi, mT, c16, c40, c62]
        exact W.iret (v := pT (mPl g q).toNatClampNeg) hx hb hr (fun t ht hW => ⟨congrArg (fun z => Outcome.returned (some (Value.int z))) er, ht⟩) (fun q h => absurd h List.not_mem_nil) dX1_till_71
  · refine lv_iconst (v := 0) hx hb dX1_till_19 (by decide) ?_
    have er : (0 : Int32) = mTi tm jA pT g q := by simp [mTi, mT, c16]
    exact W.iret (v := (0 : Int32)) hx hb hr (fun t ht hW => ⟨congrArg (fun z => Outcome.returned (some (Value.int z))) er, ht⟩) (fun q h => absurd h List.not_mem_nil) dX1_till_20
theorem hd_X1_till : yX1_till.cls = RX1 ∧ yX1_till.cls ≠ "java/lang/invoke/MethodHandle" ∧ yX1_till.cls ≠ "java/lang/invoke/VarHandle" ∧ (parseMethodDescriptor yX1_till.desc).map (fun d => d.parameters.length) = some 2 := by decide +kernel

theorem iwsX1_joined : ∀ w ∈ u_ws RX1 TX1 8, w ∈ wsX1_joined := fun _ h => List.mem_cons_of_mem _ (List.mem_append_right _ h)
set_option maxHeartbeats 4000000 in
set_option maxRecDepth 100000 in
theorem c_X1_joined (l : Launch) (dC : Nat → ClassId) (dI : Nat → Nat → Nat) (h a1 a2 a3 a4 a5 a6 : Nat) (cA : ClassId) (me tm : Int32) (hA rA lT jA pT cF : Nat → Int32) (g q : Int32) : Met l yX1_joined wsX1_joined ({ frames := 2, cells := 0, slots := 0, locals := 41 }) (PR [.ref h, .int g, .int q] dC dI cA (wM h a1 a2 a3 a4 a5 a6 cA me tm hA rA lT jA pT cF)) (QcRead (mJd tm jA pT g q)) 0 0 (fun _ => False) := by
  refine Met.ofW (cc := cX1_joined) (maxL := 3) (ret := some .int) (by decide) rfl ?_
  intro p e s m args below meth c s₁ B hml hv
  obtain ⟨rfl, hP, hK⟩ := hv
  have hx := B.exec
  have hb := B.bytes
  have hr := B.returns
  have hts := atoms_spec (ws := wsX1_joined) B.pre
  have hown : s.vm.findClass RX1 = some m.cls := findClass_of_methodNamed B.named
  have hlocks := B.notSynchronized
  have S : CallFix p m c cX1_joined 3 s ([.ref h, .int g, .int q] : List Value).toArray wsX1_joined RX1 := ⟨hx, hb, hml, hown, hts⟩
  have hl := lv_entry ([.ref h, .int g, .int q]) (n := 3) (Nat.le_of_ble_eq_true rfl)
  rw [lg_entry_eq]
  generalize (lg_sl ([.ref h, .int g, .int q]) ++ List.replicate (3 - (lg_sl ([.ref h, .int g, .int q])).length) Slot.unset).toArray = ls at hl ⊢
  have hl : lv_has ls 3 [(0, .ref h), (1, .int g), (2, .int q)] := hl
  refine lv_iload_n hx hb dX1_joined_0 rfl (lv_at hl 1 rfl) ?_
  refine lv_iload_n hx hb dX1_joined_1 rfl (lv_at hl 2 rfl) ?_
  refine rd_S (As := [.int g, .int q]) (rest := []) S (c_X1_isBranch l g q) gX1_joined_X1_isBranch rfl ⟨rfl, rfl⟩ hd_X1_isBranch ⟨Nat.le_of_ble_eq_true rfl, Nat.le_of_ble_eq_true rfl⟩ rfl hl.1 rfl (Nat.le_of_ble_eq_true rfl) dX1_joined_2 ⟨Nat.le_of_ble_eq_true rfl, Nat.le_of_ble_eq_true rfl⟩ ?_
  refine lv_if_eq (tgt := 17) hx hb dX1_joined_5 (by decide) (fun c5 => ?_) (fun c5 => ?_)
  · have b5 := bI_z c5
    refine lv_iconst (v := -1) hx hb dX1_joined_17 (by decide) ?_
    have er : (-1 : Int32) = mJd tm jA pT g q := by simp [mJd, b5]
    exact W.iret (v := (-1 : Int32)) hx hb hr (fun t ht hW => ⟨congrArg (fun z => Outcome.returned (some (Value.int z))) er, ht⟩) (fun q h => absurd h List.not_mem_nil) dX1_joined_18
  · have b5 := bI_nz c5
    refine lv_aload_n hx hb dX1_joined_8 rfl (lv_at hl 0 rfl) ?_
    refine lv_iload_n hx hb dX1_joined_9 rfl (lv_at hl 1 rfl) ?_
    refine lv_iload_n hx hb dX1_joined_10 rfl (lv_at hl 2 rfl) ?_
    refine rd_V (As := [.int g, .int q]) (rest := []) (ci := 1) (qc := (RX1, TX1, 8)) S (c_X1_till l dC dI h a1 a2 a3 a4 a5 a6 cA me tm hA rA lT jA pT cF g q b5) gX1_joined_X1_till rfl ⟨rfl, rfl⟩ hd_X1_till ⟨Nat.le_of_ble_eq_true rfl, Nat.le_of_ble_eq_true rfl⟩ hK hP rfl rfl rfl hl.1 rfl (Nat.le_of_ble_eq_true rfl) dX1_joined_11 ⟨Nat.le_of_ble_eq_true rfl, Nat.le_of_ble_eq_true rfl⟩ ?_
    refine lv_goto (tgt := 18) hx hb dX1_joined_14 (by decide) ?_
    have er : mTi tm jA pT g q = mJd tm jA pT g q := by simp [mJd, b5]
    exact W.iret (v := mTi tm jA pT g q) hx hb hr (fun t ht hW => ⟨congrArg (fun z => Outcome.returned (some (Value.int z))) er, ht⟩) (fun q h => absurd h List.not_mem_nil) dX1_joined_18
theorem hd_X1_joined : yX1_joined.cls = RX1 ∧ yX1_joined.cls ≠ "java/lang/invoke/MethodHandle" ∧ yX1_joined.cls ≠ "java/lang/invoke/VarHandle" ∧ (parseMethodDescriptor yX1_joined.desc).map (fun d => d.parameters.length) = some 2 := by decide +kernel

theorem iwsX1_cut : ∀ w ∈ u_ws RX1 TX1 8, w ∈ wsX1_cut := fun _ h => List.mem_cons_of_mem _ (List.mem_append_right _ h)
set_option maxHeartbeats 4000000 in
set_option maxRecDepth 100000 in
theorem c_X1_cut (l : Launch) (dC : Nat → ClassId) (dI : Nat → Nat → Nat) (h a1 a2 a3 a4 a5 a6 : Nat) (cA : ClassId) (me tm : Int32) (hA rA lT jA pT cF : Nat → Int32) (g q : Int32) : Met l yX1_cut wsX1_cut ({ frames := 2, cells := 0, slots := 0, locals := 41 }) (PR [.ref h, .int g, .int q] dC dI cA (wM h a1 a2 a3 a4 a5 a6 cA me tm hA rA lT jA pT cF)) (QcRead (mCu tm jA pT cF g q)) 0 0 (fun _ => False) := by
  refine Met.ofW (cc := cX1_cut) (maxL := 3) (ret := some .int) (by decide) rfl ?_
  intro p e s m args below meth c s₁ B hml hv
  obtain ⟨rfl, hP, hK⟩ := hv
  have hx := B.exec
  have hb := B.bytes
  have hr := B.returns
  have hts := atoms_spec (ws := wsX1_cut) B.pre
  have hown : s.vm.findClass RX1 = some m.cls := findClass_of_methodNamed B.named
  have hlocks := B.notSynchronized
  have S : CallFix p m c cX1_cut 3 s ([.ref h, .int g, .int q] : List Value).toArray wsX1_cut RX1 := ⟨hx, hb, hml, hown, hts⟩
  have hl := lv_entry ([.ref h, .int g, .int q]) (n := 3) (Nat.le_of_ble_eq_true rfl)
  rw [lg_entry_eq]
  generalize (lg_sl ([.ref h, .int g, .int q]) ++ List.replicate (3 - (lg_sl ([.ref h, .int g, .int q])).length) Slot.unset).toArray = ls at hl ⊢
  have hl : lv_has ls 3 [(0, .ref h), (1, .int g), (2, .int q)] := hl
  refine lv_iload_n hx hb dX1_cut_0 rfl (lv_at hl 1 rfl) ?_
  refine lv_iload_n hx hb dX1_cut_1 rfl (lv_at hl 2 rfl) ?_
  refine rd_S (As := [.int g, .int q]) (rest := []) S (c_X1_isBranch l g q) gX1_cut_X1_isBranch rfl ⟨rfl, rfl⟩ hd_X1_isBranch ⟨Nat.le_of_ble_eq_true rfl, Nat.le_of_ble_eq_true rfl⟩ rfl hl.1 rfl (Nat.le_of_ble_eq_true rfl) dX1_cut_2 ⟨Nat.le_of_ble_eq_true rfl, Nat.le_of_ble_eq_true rfl⟩ ?_
  refine lv_if_eq (tgt := 13) hx hb dX1_cut_5 (by decide) (fun c5 => ?_) (fun c5 => ?_)
  · have b5 := bI_z c5
    refine lv_iconst (v := -1) hx hb dX1_cut_13 (by decide) ?_
    have er : (-1 : Int32) = mCu tm jA pT cF g q := by simp [mCu, b5]
    exact W.iret (v := (-1 : Int32)) hx hb hr (fun t ht hW => ⟨congrArg (fun z => Outcome.returned (some (Value.int z))) er, ht⟩) (fun q h => absurd h List.not_mem_nil) dX1_cut_14
  · have b5 := bI_nz c5
    refine lv_iload_n hx hb dX1_cut_8 rfl (lv_at hl 2 rfl) ?_
    refine lv_iconst (v := -1) hx hb dX1_cut_9 (by decide) ?_
    refine lv_icmp_ne (tgt := 15) hx hb dX1_cut_10 (by decide) (fun c10 => ?_) (fun c10 => ?_)
    · refine lv_aload_n hx hb dX1_cut_15 rfl (lv_at hl 0 rfl) ?_
      refine lv_iload_n hx hb dX1_cut_16 rfl (lv_at hl 1 rfl) ?_
      refine lv_iconst (v := -1) hx hb dX1_cut_17 (by decide) ?_
      refine rd_V (As := [.int g, .int ((-1 : Int32))]) (rest := []) (ci := 1) (qc := (RX1, TX1, 8)) S (c_X1_till l dC dI h a1 a2 a3 a4 a5 a6 cA me tm hA rA lT jA pT cF g ((-1 : Int32)) (mBr_st (mBr_G b5))) gX1_cut_X1_till rfl ⟨rfl, rfl⟩ hd_X1_till ⟨Nat.le_of_ble_eq_true rfl, Nat.le_of_ble_eq_true rfl⟩ hK hP rfl rfl rfl hl.1 rfl (Nat.le_of_ble_eq_true rfl) dX1_cut_18 ⟨Nat.le_of_ble_eq_true rfl, Nat.le_of_ble_eq_true rfl⟩ ?_
      refine lv_if_eq (tgt := 39) hx hb dX1_cut_21 (by decide) (fun c21 => ?_) (fun c21 => ?_)
      · refine lv_iconst (v := 0) hx hb dX1_cut_39 (by decide) ?_
        refine lv_goto (tgt := 54) hx hb dX1_cut_40 (by decide) ?_
        have er : (0 : Int32) = mCu tm jA pT cF g q := by simp [mCu, b5, c10, c21]
        exact W.iret (v := (0 : Int32)) hx hb hr (fun t ht hW => ⟨congrArg (fun z => Outcome.returned (some (Value.int z))) er, ht⟩) (fun q h => absurd h List.not_mem_nil) dX1_cut_54
      · refine lv_aload_n hx hb dX1_cut_24 rfl (lv_at hl 0 rfl) ?_
        refine va_get (D := (dC, dI)) (ci := 1) (v := .ref a6) (C := RX1) (T := TX1) (N := 8) hx hb hts iwsX1_cut hown hK hP 0 rfl rfl 7 (by decide) (hts (.fieldLink RX1 25 "BranchTimesModel" "cutFrom" "[I") (by decide +kernel)) (fun _ h9 => h9) rfl dX1_cut_25 ?_
        refine lv_bipush (v := 16) hx hb dX1_cut_28 (by decide) ?_
        refine lv_iload_n hx hb dX1_cut_30 rfl (lv_at hl 1 rfl) ?_
        refine lv_imul hx hb dX1_cut_31 ?_
        refine lv_iload_n hx hb dX1_cut_32 rfl (lv_at hl 2 rfl) ?_
        refine lv_iadd hx hb dX1_cut_33 ?_
        refine lv_top (x' := mCp g q) (rfl) ?_
        refine va_iald (D := (dC, dI)) hx hb hK hP 6 0 rfl rfl (mCp_in (mBr_G b5) (mSrc b5 c10)) dX1_cut_34 ?_
        refine lv_iconst (v := -1) hx hb dX1_cut_35 (by decide) ?_
        refine lv_icmp_ne (tgt := 43) hx hb dX1_cut_36 (by decide) (fun c36 => ?_) (fun c36 => ?_)
        · refine lv_aload_n hx hb dX1_cut_43 rfl (lv_at hl 0 rfl) ?_
          refine va_get (D := (dC, dI)) (ci := 1) (v := .ref a6) (C := RX1) (T := TX1) (N := 8) hx hb hts iwsX1_cut hown hK hP 0 rfl rfl 7 (by decide) (hts (.fieldLink RX1 25 "BranchTimesModel" "cutFrom" "[I") (by decide +kernel)) (fun _ h9 => h9) rfl dX1_cut_44 ?_
          refine lv_bipush (v := 16) hx hb dX1_cut_47 (by decide) ?_
          refine lv_iload_n hx hb dX1_cut_49 rfl (lv_at hl 1 rfl) ?_
          refine lv_imul hx hb dX1_cut_50 ?_
          refine lv_iload_n hx hb dX1_cut_51 rfl (lv_at hl 2 rfl) ?_
          refine lv_iadd hx hb dX1_cut_52 ?_
          refine lv_top (x' := mCp g q) (rfl) ?_
          refine va_iald (D := (dC, dI)) hx hb hK hP 6 0 rfl rfl (mCp_in (mBr_G b5) (mSrc b5 c10)) dX1_cut_53 ?_
          have er : cF (mCp g q).toNatClampNeg = mCu tm jA pT cF g q := by simp [mCu, b5, c10, c21, c36]
          exact W.iret (v := cF (mCp g q).toNatClampNeg) hx hb hr (fun t ht hW => ⟨congrArg (fun z => Outcome.returned (some (Value.int z))) er, ht⟩) (fun q h => absurd h List.not_mem_nil) dX1_cut_54
        · refine lv_iconst (v := 0) hx hb dX1_cut_39 (by decide) ?_
          refine lv_goto (tgt := 54) hx hb dX1_cut_40 (by decide) ?_
          have er : (0 : Int32) = mCu tm jA pT cF g q := by simp [mCu, b5, c10, c21, c36]
          exact W.iret (v := (0 : Int32)) hx hb hr (fun t ht hW => ⟨congrArg (fun z => Outcome.returned (some (Value.int z))) er, ht⟩) (fun q h => absurd h List.not_mem_nil) dX1_cut_54
    · refine lv_iconst (v := -1) hx hb dX1_cut_13 (by decide) ?_
      have er : (-1 : Int32) = mCu tm jA pT cF g q := by simp [mCu, b5, c10]
      exact W.iret (v := (-1 : Int32)) hx hb hr (fun t ht hW => ⟨congrArg (fun z => Outcome.returned (some (Value.int z))) er, ht⟩) (fun q h => absurd h List.not_mem_nil) dX1_cut_14
theorem hd_X1_cut : yX1_cut.cls = RX1 ∧ yX1_cut.cls ≠ "java/lang/invoke/MethodHandle" ∧ yX1_cut.cls ≠ "java/lang/invoke/VarHandle" ∧ (parseMethodDescriptor yX1_cut.desc).map (fun d => d.parameters.length) = some 2 := by decide +kernel

theorem iwsX1_isCutOff : ∀ w ∈ u_ws RX1 TX1 8, w ∈ wsX1_isCutOff := fun _ h => List.mem_cons_of_mem _ (List.mem_append_right _ h)
set_option maxHeartbeats 4000000 in
set_option maxRecDepth 100000 in
theorem c_X1_isCutOff (l : Launch) (dC : Nat → ClassId) (dI : Nat → Nat → Nat) (h a1 a2 a3 a4 a5 a6 : Nat) (cA : ClassId) (me tm : Int32) (hA rA lT jA pT cF : Nat → Int32) (g q : Int32) (hg : xG g = true) (hq : xSrc q = true) : Met l yX1_isCutOff wsX1_isCutOff ({ frames := 0, cells := 0, slots := 0, locals := 0 }) (PR [.ref h, .int g, .int q] dC dI cA (wM h a1 a2 a3 a4 a5 a6 cA me tm hA rA lT jA pT cF)) (QcRead (bI (mCut tm cF g q))) 0 0 (fun _ => False) := by
  refine Met.ofW (cc := cX1_isCutOff) (maxL := 3) (ret := some .boolean) (by decide) rfl ?_
  intro p e s m args below meth c s₁ B hml hv
  obtain ⟨rfl, hP, hK⟩ := hv
  have hx := B.exec
  have hb := B.bytes
  have hr := B.returns
  have hts := atoms_spec (ws := wsX1_isCutOff) B.pre
  have hown : s.vm.findClass RX1 = some m.cls := findClass_of_methodNamed B.named
  have hlocks := B.notSynchronized
  have S : CallFix p m c cX1_isCutOff 3 s ([.ref h, .int g, .int q] : List Value).toArray wsX1_isCutOff RX1 := ⟨hx, hb, hml, hown, hts⟩
  have hl := lv_entry ([.ref h, .int g, .int q]) (n := 3) (Nat.le_of_ble_eq_true rfl)
  rw [lg_entry_eq]
  generalize (lg_sl ([.ref h, .int g, .int q]) ++ List.replicate (3 - (lg_sl ([.ref h, .int g, .int q])).length) Slot.unset).toArray = ls at hl ⊢
  have hl : lv_has ls 3 [(0, .ref h), (1, .int g), (2, .int q)] := hl
  refine lv_aload_n hx hb dX1_isCutOff_0 rfl (lv_at hl 0 rfl) ?_
  refine va_get (D := (dC, dI)) (ci := 1) (v := .ref a6) (C := RX1) (T := TX1) (N := 8) hx hb hts iwsX1_isCutOff hown hK hP 0 rfl rfl 7 (by decide) (hts (.fieldLink RX1 25 "BranchTimesModel" "cutFrom" "[I") (by decide +kernel)) (fun _ h9 => h9) rfl dX1_isCutOff_1 ?_
  refine lv_bipush (v := 16) hx hb dX1_isCutOff_4 (by decide) ?_
  refine lv_iload_n hx hb dX1_isCutOff_6 rfl (lv_at hl 1 rfl) ?_
  refine lv_imul hx hb dX1_isCutOff_7 ?_
  refine lv_iload_n hx hb dX1_isCutOff_8 rfl (lv_at hl 2 rfl) ?_
  refine lv_iadd hx hb dX1_isCutOff_9 ?_
  refine lv_top (x' := mCp g q) (rfl) ?_
  refine va_iald (D := (dC, dI)) hx hb hK hP 6 0 rfl rfl (mCp_in hg hq) dX1_isCutOff_10 ?_
  refine lv_iconst (v := -1) hx hb dX1_isCutOff_11 (by decide) ?_
  refine lv_icmp_eq (tgt := 37) hx hb dX1_isCutOff_12 (by decide) (fun c12 => ?_) (fun c12 => ?_)
  · refine lv_iconst (v := 0) hx hb dX1_isCutOff_37 (by decide) ?_
    have er : (0 : Int32) = bI (mCut tm cF g q) := by simp [mCut, bI, c12]
    exact W.zret (v := (0 : Int32)) (ty := .boolean) hx hb hr rfl (fun t ht hW => ⟨congrArg (fun z => Outcome.returned (some (Value.int z))) er, ht⟩) (fun q h => absurd h List.not_mem_nil) dX1_isCutOff_38
  · refine lv_aload_n hx hb dX1_isCutOff_15 rfl (lv_at hl 0 rfl) ?_
    refine va_get (D := (dC, dI)) (ci := 1) (v := .int tm) (C := RX1) (T := TX1) (N := 8) hx hb hts iwsX1_isCutOff hown hK hP 0 rfl rfl 1 (by decide) (hts (.fieldLink RX1 39 "BranchTimesModel" "time" "I") (by decide +kernel)) (fun _ h9 => h9) rfl dX1_isCutOff_16 ?_
    refine lv_aload_n hx hb dX1_isCutOff_19 rfl (lv_at hl 0 rfl) ?_
    refine va_get (D := (dC, dI)) (ci := 1) (v := .ref a6) (C := RX1) (T := TX1) (N := 8) hx hb hts iwsX1_isCutOff hown hK hP 0 rfl rfl 7 (by decide) (hts (.fieldLink RX1 25 "BranchTimesModel" "cutFrom" "[I") (by decide +kernel)) (fun _ h9 => h9) rfl dX1_isCutOff_20 ?_
    refine lv_bipush (v := 16) hx hb dX1_isCutOff_23 (by decide) ?_
    refine lv_iload_n hx hb dX1_isCutOff_25 rfl (lv_at hl 1 rfl) ?_
    refine lv_imul hx hb dX1_isCutOff_26 ?_
    refine lv_iload_n hx hb dX1_isCutOff_27 rfl (lv_at hl 2 rfl) ?_
    refine lv_iadd hx hb dX1_isCutOff_28 ?_
    refine lv_top (x' := mCp g q) (rfl) ?_
    refine va_iald (D := (dC, dI)) hx hb hK hP 6 0 rfl rfl (mCp_in hg hq) dX1_isCutOff_29 ?_
    refine lv_icmp_lt (tgt := 37) hx hb dX1_isCutOff_30 (by decide) (fun c30 => ?_) (fun c30 => ?_)
    · refine lv_iconst (v := 0) hx hb dX1_isCutOff_37 (by decide) ?_
      have er : (0 : Int32) = bI (mCut tm cF g q) := by simp [mCut, bI, c12, c30]
      exact W.zret (v := (0 : Int32)) (ty := .boolean) hx hb hr rfl (fun t ht hW => ⟨congrArg (fun z => Outcome.returned (some (Value.int z))) er, ht⟩) (fun q h => absurd h List.not_mem_nil) dX1_isCutOff_38
    · refine lv_iconst (v := 1) hx hb dX1_isCutOff_33 (by decide) ?_
      refine lv_goto (tgt := 38) hx hb dX1_isCutOff_34 (by decide) ?_
      have er : (1 : Int32) = bI (mCut tm cF g q) := by simp [mCut, bI, c12, c30]
      exact W.zret (v := (1 : Int32)) (ty := .boolean) hx hb hr rfl (fun t ht hW => ⟨congrArg (fun z => Outcome.returned (some (Value.int z))) er, ht⟩) (fun q h => absurd h List.not_mem_nil) dX1_isCutOff_38
theorem hd_X1_isCutOff : yX1_isCutOff.cls = RX1 ∧ yX1_isCutOff.cls ≠ "java/lang/invoke/MethodHandle" ∧ yX1_isCutOff.cls ≠ "java/lang/invoke/VarHandle" ∧ (parseMethodDescriptor yX1_isCutOff.desc).map (fun d => d.parameters.length) = some 2 := by decide +kernel

theorem iwsX1_goes : ∀ w ∈ u_ws RX1 TX1 8, w ∈ wsX1_goes := fun _ h => List.mem_cons_of_mem _ (List.mem_append_right _ h)
set_option maxHeartbeats 4000000 in
set_option maxRecDepth 100000 in
theorem lp_X1_goes_35 {p : Program} {e : Env} {s : State} {m : MethodId} {args : Array Value} {below : List Frame} {meth : Method} {c : Code} {cells slots : Nat} {Q : State → Prop} {H : Heap} {locs : List Loc} (l : Launch) (dC : Nat → ClassId) (dI : Nat → Nat → Nat) (h a1 a2 a3 a4 a5 a6 : Nat) (cA : ClassId) (me tm : Int32) (hA rA lT jA pT cF : Nat → Int32) (g : Int32) (own : Bool) (hg : xG g = true) (S : CallFix p m c cX1_goes 6 s args wsX1_goes RX1) (hK : va_K (dC, dI) vwCl [(cA, .int)] s) (hP : va_P (dC, dI) vwCl (wM h a1 a2 a3 a4 a5 a6 cA me tm hA rA lT jA pT cF) H) (hcs : cells + 0 ≤ 0 ∧ slots + 0 ≤ 0) (k : ∀ (ls : Array Slot), lv_has ls 6 [(0, .ref h), (1, .int g), (2, .int (bI own)), (3, .int (bitsI (mGoq own tm jA pT cF g) 16)), (4, .int (nI 16))] → W p l e ({ frames := 2, cells := 0, slots := 0, locals := 42 }) s m args below meth c H locs cells slots Q (F0 m 100 ls [])) : ∀ (n i : Nat), i + n = 16 → ∀ (ls : Array Slot), lv_has ls 6 [(0, .ref h), (1, .int g), (2, .int (bI own)), (3, .int (bitsI (mGoq own tm jA pT cF g) i)), (4, .int (nI i))] → W p l e ({ frames := 2, cells := 0, slots := 0, locals := 42 }) s m args below meth c H locs cells slots Q (F0 m 35 ls []) := by
  obtain ⟨hx, hb, hml, hown, hts⟩ := id S
  intro n
  induction n with
  | zero =>
    intro i hi ls hl
    obtain rfl : i = 16 := by omega
    refine lv_iload hx hb dX1_goes_35 (lv_at hl 4 rfl) ?_
    refine lv_bipush (v := 16) hx hb dX1_goes_37 (by decide) ?_
    refine lv_icmp_ge (tgt := 100) hx hb dX1_goes_39 (by decide) (fun c39 => ?_) (fun c39 => ?_)
    · exact k ls (lv_sub hl [0, 1, 2, 3, 4] rfl)
    · exact absurd c39 (by decide)
  | succ n ih =>
    intro i hi ls hl
    have hlt : i < 16 := by omega
    have hcl : (nI i).toNatClampNeg = i := nI_clamp (by omega)
    refine lv_iload hx hb dX1_goes_35 (lv_at hl 4 rfl) ?_
    refine lv_bipush (v := 16) hx hb dX1_goes_37 (by decide) ?_
    refine lv_icmp_ge (tgt := 100) hx hb dX1_goes_39 (by decide) (fun c39 => ?_) (fun c39 => ?_)
    · exact absurd c39 (nI_ge hlt (by decide))
    · refine lv_iload_n hx hb dX1_goes_42 rfl (lv_at hl 2 rfl) ?_
      refine lv_if_ne (tgt := 75) hx hb dX1_goes_43 (by decide) (fun c43 => ?_) (fun c43 => ?_)
      · have b43 := bI_nz c43
        refine lv_iconst (v := 1) hx hb dX1_goes_75 (by decide) ?_
        refine lv_goto (tgt := 80) hx hb dX1_goes_76 (by decide) ?_
        refine lv_istore (lv' := [(5, .int ((1 : Int32))), (0, .ref h), (1, .int g), (2, .int (bI own)), (3, .int (bitsI (mGoq own tm jA pT cF g) i)), (4, .int (nI i))]) hx hb dX1_goes_80 hl (by decide) rfl (fun ls hl => ?_)
        refine lv_iload hx hb dX1_goes_82 (lv_at hl 0 rfl) ?_
        refine lv_if_eq (tgt := 94) hx hb dX1_goes_84 (by decide) (fun c84 => ?_) (fun c84 => ?_)
        · exact absurd c84 (by decide)
        · clear c84
          refine lv_iload_n hx hb dX1_goes_87 rfl (lv_at hl 4 rfl) ?_
          refine lv_iconst (v := 1) hx hb dX1_goes_88 (by decide) ?_
          refine lv_iload hx hb dX1_goes_89 (lv_at hl 5 rfl) ?_
          refine lv_ishl hx hb dX1_goes_91 ?_
          refine lv_ior hx hb dX1_goes_92 ?_
          refine lv_istore_n (lv' := [(3, .int ((bitsI (mGoq own tm jA pT cF g) i) ||| (((1 : Int32)) <<< ((nI i) &&& 31)))), (5, .int ((1 : Int32))), (0, .ref h), (1, .int g), (2, .int (bI own)), (4, .int (nI i))]) hx hb dX1_goes_93 rfl hl (by decide) rfl (fun ls hl => ?_)
          refine lv_iinc (v := nI (i + 1)) (lv' := [(4, .int (nI (i + 1))), (3, .int ((bitsI (mGoq own tm jA pT cF g) i) ||| (((1 : Int32)) <<< ((nI i) &&& 31)))), (5, .int ((1 : Int32))), (0, .ref h), (1, .int g), (2, .int (bI own))]) hx hb dX1_goes_94 hl (k := 5) rfl (nI_1 _) (by decide) rfl (fun ls hl => ?_)
          refine lv_goto (tgt := 35) hx hb dX1_goes_97 (by decide) ?_
          exact ih (i + 1) (by omega) ls (by rw [bitsI_t (q := mGoq own tm jA pT cF g) (k := i) (by simp [mGoq, b43])]; exact lv_sub hl [3, 4, 5, 1, 0] rfl)
      · have b43 := bI_z c43
        refine lv_aload_n hx hb dX1_goes_46 rfl (lv_at hl 0 rfl) ?_
        refine lv_iload_n hx hb dX1_goes_47 rfl (lv_at hl 1 rfl) ?_
        refine lv_iload hx hb dX1_goes_48 (lv_at hl 4 rfl) ?_
        refine rd_V (As := [.int g, .int (nI i)]) (rest := []) (ci := 1) (qc := (RX1, TX1, 8)) S (c_X1_till l dC dI h a1 a2 a3 a4 a5 a6 cA me tm hA rA lT jA pT cF g (nI i) (mBr_nb hg hlt)) gX1_goes_X1_till rfl ⟨rfl, rfl⟩ hd_X1_till ⟨Nat.le_of_ble_eq_true rfl, Nat.le_of_ble_eq_true rfl⟩ hK hP rfl rfl rfl hl.1 rfl (Nat.le_of_ble_eq_true rfl) dX1_goes_50 hcs ?_
        refine lv_if_gt (tgt := 75) hx hb dX1_goes_53 (by decide) (fun c53 => ?_) (fun c53 => ?_)
        · refine lv_iconst (v := 1) hx hb dX1_goes_75 (by decide) ?_
          refine lv_goto (tgt := 80) hx hb dX1_goes_76 (by decide) ?_
          refine lv_istore (lv' := [(5, .int ((1 : Int32))), (0, .ref h), (1, .int g), (2, .int (bI own)), (3, .int (bitsI (mGoq own tm jA pT cF g) i)), (4, .int (nI i))]) hx hb dX1_goes_80 hl (by decide) rfl (fun ls hl => ?_)
          refine lv_iload hx hb dX1_goes_82 (lv_at hl 0 rfl) ?_
          refine lv_if_eq (tgt := 94) hx hb dX1_goes_84 (by decide) (fun c84 => ?_) (fun c84 => ?_)
          · exact absurd c84 (by decide)
          · clear c84
            refine lv_iload_n hx hb dX1_goes_87 rfl (lv_at hl 4 rfl) ?_
            refine lv_iconst (v := 1) hx hb dX1_goes_88 (by decide) ?_
            refine lv_iload hx hb dX1_goes_89 (lv_at hl 5 rfl) ?_
            refine lv_ishl hx hb dX1_goes_91 ?_
            refine lv_ior hx hb dX1_goes_92 ?_
            refine lv_istore_n (lv' := [(3, .int ((bitsI (mGoq own tm jA pT cF g) i) ||| (((1 : Int32)) <<< ((nI i) &&& 31)))), (5, .int ((1 : Int32))), (0, .ref h), (1, .int g), (2, .int (bI own)), (4, .int (nI i))]) hx hb dX1_goes_93 rfl hl (by decide) rfl (fun ls hl => ?_)
            refine lv_iinc (v := nI (i + 1)) (lv' := [(4, .int (nI (i + 1))), (3, .int ((bitsI (mGoq own tm jA pT cF g) i) ||| (((1 : Int32)) <<< ((nI i) &&& 31)))), (5, .int ((1 : Int32))), (0, .ref h), (1, .int g), (2, .int (bI own))]) hx hb dX1_goes_94 hl (k := 5) rfl (nI_1 _) (by decide) rfl (fun ls hl => ?_)
            refine lv_goto (tgt := 35) hx hb dX1_goes_97 (by decide) ?_
            exact ih (i + 1) (by omega) ls (by rw [bitsI_t (q := mGoq own tm jA pT cF g) (k := i) (by simp [mGoq, b43, c53])]; exact lv_sub hl [3, 4, 5, 1, 0] rfl)
        · refine lv_aload_n hx hb dX1_goes_56 rfl (lv_at hl 0 rfl) ?_
          refine lv_iload_n hx hb dX1_goes_57 rfl (lv_at hl 1 rfl) ?_
          refine lv_iconst (v := -1) hx hb dX1_goes_58 (by decide) ?_
          refine rd_V (As := [.int g, .int ((-1 : Int32))]) (rest := []) (ci := 1) (qc := (RX1, TX1, 8)) S (c_X1_till l dC dI h a1 a2 a3 a4 a5 a6 cA me tm hA rA lT jA pT cF g ((-1 : Int32)) (mBr_st hg)) gX1_goes_X1_till rfl ⟨rfl, rfl⟩ hd_X1_till ⟨Nat.le_of_ble_eq_true rfl, Nat.le_of_ble_eq_true rfl⟩ hK hP rfl rfl rfl hl.1 rfl (Nat.le_of_ble_eq_true rfl) dX1_goes_59 hcs ?_
          refine lv_if_le (tgt := 79) hx hb dX1_goes_62 (by decide) (fun c62 => ?_) (fun c62 => ?_)
          · refine lv_iconst (v := 0) hx hb dX1_goes_79 (by decide) ?_
            refine lv_istore (lv' := [(5, .int ((0 : Int32))), (0, .ref h), (1, .int g), (2, .int (bI own)), (3, .int (bitsI (mGoq own tm jA pT cF g) i)), (4, .int (nI i))]) hx hb dX1_goes_80 hl (by decide) rfl (fun ls hl => ?_)
            refine lv_iload hx hb dX1_goes_82 (lv_at hl 0 rfl) ?_
            refine lv_if_eq (tgt := 94) hx hb dX1_goes_84 (by decide) (fun c84 => ?_) (fun c84 => ?_)
            · clear c84
              refine lv_iinc (v := nI (i + 1)) (lv' := [(4, .int (nI (i + 1))), (5, .int ((0 : Int32))), (0, .ref h), (1, .int g), (2, .int (bI own)), (3, .int (bitsI (mGoq own tm jA pT cF g) i))]) hx hb dX1_goes_94 hl (k := 5) rfl (nI_1 _) (by decide) rfl (fun ls hl => ?_)
              refine lv_goto (tgt := 35) hx hb dX1_goes_97 (by decide) ?_
              exact ih (i + 1) (by omega) ls (by rw [bitsI_f (q := mGoq own tm jA pT cF g) (k := i) (by simp [mGoq, b43, c53, c62])]; exact lv_sub hl [2, 3, 4, 5, 0] rfl)
            · exact absurd c84 (by decide)
          · refine lv_aload_n hx hb dX1_goes_65 rfl (lv_at hl 0 rfl) ?_
            refine lv_iload_n hx hb dX1_goes_66 rfl (lv_at hl 1 rfl) ?_
            refine lv_iload hx hb dX1_goes_67 (lv_at hl 4 rfl) ?_
            refine rd_V (As := [.int g, .int (nI i)]) (rest := []) (ci := 1) (qc := (RX1, TX1, 8)) S (c_X1_isCutOff l dC dI h a1 a2 a3 a4 a5 a6 cA me tm hA rA lT jA pT cF g (nI i) hg (xSrc_nI hlt)) gX1_goes_X1_isCutOff rfl ⟨rfl, rfl⟩ hd_X1_isCutOff ⟨Nat.le_of_ble_eq_true rfl, Nat.le_of_ble_eq_true rfl⟩ hK hP rfl rfl rfl hl.1 rfl (Nat.le_of_ble_eq_true rfl) dX1_goes_69 hcs ?_
            refine lv_if_ne (tgt := 79) hx hb dX1_goes_72 (by decide) (fun c72 => ?_) (fun c72 => ?_)
            · have b72 := bI_nz c72
              refine lv_iconst (v := 0) hx hb dX1_goes_79 (by decide) ?_
              refine lv_istore (lv' := [(5, .int ((0 : Int32))), (0, .ref h), (1, .int g), (2, .int (bI own)), (3, .int (bitsI (mGoq own tm jA pT cF g) i)), (4, .int (nI i))]) hx hb dX1_goes_80 hl (by decide) rfl (fun ls hl => ?_)
              refine lv_iload hx hb dX1_goes_82 (lv_at hl 0 rfl) ?_
              refine lv_if_eq (tgt := 94) hx hb dX1_goes_84 (by decide) (fun c84 => ?_) (fun c84 => ?_)
              · clear c84
                refine lv_iinc (v := nI (i + 1)) (lv' := [(4, .int (nI (i + 1))), (5, .int ((0 : Int32))), (0, .ref h), (1, .int g), (2, .int (bI own)), (3, .int (bitsI (mGoq own tm jA pT cF g) i))]) hx hb dX1_goes_94 hl (k := 5) rfl (nI_1 _) (by decide) rfl (fun ls hl => ?_)
                refine lv_goto (tgt := 35) hx hb dX1_goes_97 (by decide) ?_
                exact ih (i + 1) (by omega) ls (by rw [bitsI_f (q := mGoq own tm jA pT cF g) (k := i) (by simp [mGoq, b43, c53, c62, b72])]; exact lv_sub hl [2, 3, 4, 5, 0] rfl)
              · exact absurd c84 (by decide)
            · have b72 := bI_z c72
              refine lv_iconst (v := 1) hx hb dX1_goes_75 (by decide) ?_
              refine lv_goto (tgt := 80) hx hb dX1_goes_76 (by decide) ?_
              refine lv_istore (lv' := [(5, .int ((1 : Int32))), (0, .ref h), (1, .int g), (2, .int (bI own)), (3, .int (bitsI (mGoq own tm jA pT cF g) i)), (4, .int (nI i))]) hx hb dX1_goes_80 hl (by decide) rfl (fun ls hl => ?_)
              refine lv_iload hx hb dX1_goes_82 (lv_at hl 0 rfl) ?_
              refine lv_if_eq (tgt := 94) hx hb dX1_goes_84 (by decide) (fun c84 => ?_) (fun c84 => ?_)
              · exact absurd c84 (by decide)
              · clear c84
                refine lv_iload_n hx hb dX1_goes_87 rfl (lv_at hl 4 rfl) ?_
                refine lv_iconst (v := 1) hx hb dX1_goes_88 (by decide) ?_
                refine lv_iload hx hb dX1_goes_89 (lv_at hl 5 rfl) ?_
                refine lv_ishl hx hb dX1_goes_91 ?_
                refine lv_ior hx hb dX1_goes_92 ?_
                refine lv_istore_n (lv' := [(3, .int ((bitsI (mGoq own tm jA pT cF g) i) ||| (((1 : Int32)) <<< ((nI i) &&& 31)))), (5, .int ((1 : Int32))), (0, .ref h), (1, .int g), (2, .int (bI own)), (4, .int (nI i))]) hx hb dX1_goes_93 rfl hl (by decide) rfl (fun ls hl => ?_)
                refine lv_iinc (v := nI (i + 1)) (lv' := [(4, .int (nI (i + 1))), (3, .int ((bitsI (mGoq own tm jA pT cF g) i) ||| (((1 : Int32)) <<< ((nI i) &&& 31)))), (5, .int ((1 : Int32))), (0, .ref h), (1, .int g), (2, .int (bI own))]) hx hb dX1_goes_94 hl (k := 5) rfl (nI_1 _) (by decide) rfl (fun ls hl => ?_)
                refine lv_goto (tgt := 35) hx hb dX1_goes_97 (by decide) ?_
                exact ih (i + 1) (by omega) ls (by rw [bitsI_t (q := mGoq own tm jA pT cF g) (k := i) (by simp [mGoq, b43, c53, c62, b72])]; exact lv_sub hl [3, 4, 5, 1, 0] rfl)
set_option maxHeartbeats 4000000 in
set_option maxRecDepth 100000 in
theorem c_X1_goes (l : Launch) (dC : Nat → ClassId) (dI : Nat → Nat → Nat) (h a1 a2 a3 a4 a5 a6 : Nat) (cA : ClassId) (me tm : Int32) (hA rA lT jA pT cF : Nat → Int32) (g : Int32) : Met l yX1_goes wsX1_goes ({ frames := 2, cells := 0, slots := 0, locals := 42 }) (PR [.ref h, .int g] dC dI cA (wM h a1 a2 a3 a4 a5 a6 cA me tm hA rA lT jA pT cF)) (QcRead (mGoes me tm hA rA lT jA pT cF g)) 0 0 (fun _ => False) := by
  refine Met.ofW (cc := cX1_goes) (maxL := 6) (ret := some .int) (by decide) rfl ?_
  intro p e s m args below meth c s₁ B hml hv
  obtain ⟨rfl, hP, hK⟩ := hv
  have hx := B.exec
  have hb := B.bytes
  have hr := B.returns
  have hts := atoms_spec (ws := wsX1_goes) B.pre
  have hown : s.vm.findClass RX1 = some m.cls := findClass_of_methodNamed B.named
  have hlocks := B.notSynchronized
  have S : CallFix p m c cX1_goes 6 s ([.ref h, .int g] : List Value).toArray wsX1_goes RX1 := ⟨hx, hb, hml, hown, hts⟩
  have hl := lv_entry ([.ref h, .int g]) (n := 6) (Nat.le_of_ble_eq_true rfl)
  rw [lg_entry_eq]
  generalize (lg_sl ([.ref h, .int g]) ++ List.replicate (6 - (lg_sl ([.ref h, .int g])).length) Slot.unset).toArray = ls at hl ⊢
  have hl : lv_has ls 6 [(0, .ref h), (1, .int g)] := hl
  refine lv_iload_n hx hb dX1_goes_0 rfl (lv_at hl 1 rfl) ?_
  refine rd_S (As := [.int g]) (rest := []) S (c_X1_isGroup l g) gX1_goes_X1_isGroup rfl ⟨rfl, rfl⟩ hd_X1_isGroup ⟨Nat.le_of_ble_eq_true rfl, Nat.le_of_ble_eq_true rfl⟩ rfl hl.1 rfl (Nat.le_of_ble_eq_true rfl) dX1_goes_1 ⟨Nat.le_of_ble_eq_true rfl, Nat.le_of_ble_eq_true rfl⟩ ?_
  refine lv_if_ne (tgt := 9) hx hb dX1_goes_4 (by decide) (fun c4 => ?_) (fun c4 => ?_)
  · have b4 := bI_nz c4
    refine lv_aload_n hx hb dX1_goes_9 rfl (lv_at hl 0 rfl) ?_
    refine lv_iload_n hx hb dX1_goes_10 rfl (lv_at hl 1 rfl) ?_
    refine rd_V (As := [.int g]) (rest := []) (ci := 1) (qc := (RX1, TX1, 8)) S (c_X1_memberTill l dC dI h a1 a2 a3 a4 a5 a6 cA me tm hA rA lT jA pT cF g b4) gX1_goes_X1_memberTill rfl ⟨rfl, rfl⟩ hd_X1_memberTill ⟨Nat.le_of_ble_eq_true rfl, Nat.le_of_ble_eq_true rfl⟩ hK hP rfl rfl rfl hl.1 rfl (Nat.le_of_ble_eq_true rfl) dX1_goes_11 ⟨Nat.le_of_ble_eq_true rfl, Nat.le_of_ble_eq_true rfl⟩ ?_
    refine lv_if_le (tgt := 28) hx hb dX1_goes_14 (by decide) (fun c14 => ?_) (fun c14 => ?_)
    · refine lv_iconst (v := 0) hx hb dX1_goes_28 (by decide) ?_
      refine lv_top (x' := bI (mOwn me tm hA rA lT g)) (by simp [mOwn, bI, b4, c14]) ?_
      refine lv_istore_n (lv' := [(2, .int (bI (mOwn me tm hA rA lT g))), (0, .ref h), (1, .int g)]) hx hb dX1_goes_29 rfl hl (by decide) rfl (fun ls hl => ?_)
      refine lv_iconst (v := 0) hx hb dX1_goes_30 (by decide) ?_
      refine lv_istore_n (lv' := [(3, .int ((0 : Int32))), (2, .int (bI (mOwn me tm hA rA lT g))), (0, .ref h), (1, .int g)]) hx hb dX1_goes_31 rfl hl (by decide) rfl (fun ls hl => ?_)
      refine lv_iconst (v := 0) hx hb dX1_goes_32 (by decide) ?_
      refine lv_istore (lv' := [(4, .int ((0 : Int32))), (3, .int ((0 : Int32))), (2, .int (bI (mOwn me tm hA rA lT g))), (0, .ref h), (1, .int g)]) hx hb dX1_goes_33 hl (by decide) rfl (fun ls hl => ?_)
      refine lp_X1_goes_35 l dC dI h a1 a2 a3 a4 a5 a6 cA me tm hA rA lT jA pT cF g (mOwn me tm hA rA lT g) b4 S hK hP ⟨Nat.le_of_ble_eq_true rfl, Nat.le_of_ble_eq_true rfl⟩ (fun ls hl => ?_) 16 0 rfl ls (lv_sub hl [3, 4, 2, 1, 0] rfl)
      refine lv_iload_n hx hb dX1_goes_100 rfl (lv_at hl 3 rfl) ?_
      have er : bitsI (mGoq (mOwn me tm hA rA lT g) tm jA pT cF g) 16 = mGoes me tm hA rA lT jA pT cF g := by simp [mGoes, b4, c14]
      exact W.iret (v := bitsI (mGoq (mOwn me tm hA rA lT g) tm jA pT cF g) 16) hx hb hr (fun t ht hW => ⟨congrArg (fun z => Outcome.returned (some (Value.int z))) er, ht⟩) (fun q h => absurd h List.not_mem_nil) dX1_goes_101
    · refine lv_aload_n hx hb dX1_goes_17 rfl (lv_at hl 0 rfl) ?_
      refine rd_V (As := []) (rest := []) (ci := 1) (qc := (RX1, TX1, 8)) S (c_X1_isFirst l dC dI h a1 a2 a3 a4 a5 a6 cA me tm hA rA lT jA pT cF) gX1_goes_X1_isFirst rfl ⟨rfl, rfl⟩ hd_X1_isFirst ⟨Nat.le_of_ble_eq_true rfl, Nat.le_of_ble_eq_true rfl⟩ hK hP rfl rfl rfl hl.1 rfl (Nat.le_of_ble_eq_true rfl) dX1_goes_18 ⟨Nat.le_of_ble_eq_true rfl, Nat.le_of_ble_eq_true rfl⟩ ?_
      refine lv_if_eq (tgt := 28) hx hb dX1_goes_21 (by decide) (fun c21 => ?_) (fun c21 => ?_)
      · have b21 := bI_z c21
        refine lv_iconst (v := 0) hx hb dX1_goes_28 (by decide) ?_
        refine lv_top (x' := bI (mOwn me tm hA rA lT g)) (by simp [mOwn, bI, b4, c14, b21]) ?_
        refine lv_istore_n (lv' := [(2, .int (bI (mOwn me tm hA rA lT g))), (0, .ref h), (1, .int g)]) hx hb dX1_goes_29 rfl hl (by decide) rfl (fun ls hl => ?_)
        refine lv_iconst (v := 0) hx hb dX1_goes_30 (by decide) ?_
        refine lv_istore_n (lv' := [(3, .int ((0 : Int32))), (2, .int (bI (mOwn me tm hA rA lT g))), (0, .ref h), (1, .int g)]) hx hb dX1_goes_31 rfl hl (by decide) rfl (fun ls hl => ?_)
        refine lv_iconst (v := 0) hx hb dX1_goes_32 (by decide) ?_
        refine lv_istore (lv' := [(4, .int ((0 : Int32))), (3, .int ((0 : Int32))), (2, .int (bI (mOwn me tm hA rA lT g))), (0, .ref h), (1, .int g)]) hx hb dX1_goes_33 hl (by decide) rfl (fun ls hl => ?_)
        refine lp_X1_goes_35 l dC dI h a1 a2 a3 a4 a5 a6 cA me tm hA rA lT jA pT cF g (mOwn me tm hA rA lT g) b4 S hK hP ⟨Nat.le_of_ble_eq_true rfl, Nat.le_of_ble_eq_true rfl⟩ (fun ls hl => ?_) 16 0 rfl ls (lv_sub hl [3, 4, 2, 1, 0] rfl)
        refine lv_iload_n hx hb dX1_goes_100 rfl (lv_at hl 3 rfl) ?_
        have er : bitsI (mGoq (mOwn me tm hA rA lT g) tm jA pT cF g) 16 = mGoes me tm hA rA lT jA pT cF g := by simp [mGoes, b4, c14, b21]
        exact W.iret (v := bitsI (mGoq (mOwn me tm hA rA lT g) tm jA pT cF g) 16) hx hb hr (fun t ht hW => ⟨congrArg (fun z => Outcome.returned (some (Value.int z))) er, ht⟩) (fun q h => absurd h List.not_mem_nil) dX1_goes_101
      · have b21 := bI_nz c21
        refine lv_iconst (v := 1) hx hb dX1_goes_24 (by decide) ?_
        refine lv_goto (tgt := 29) hx hb dX1_goes_25 (by decide) ?_
        refine lv_top (x' := bI (mOwn me tm hA rA lT g)) (by simp [mOwn, bI, b4, c14, b21]) ?_
        refine lv_istore_n (lv' := [(2, .int (bI (mOwn me tm hA rA lT g))), (0, .ref h), (1, .int g)]) hx hb dX1_goes_29 rfl hl (by decide) rfl (fun ls hl => ?_)
        refine lv_iconst (v := 0) hx hb dX1_goes_30 (by decide) ?_
        refine lv_istore_n (lv' := [(3, .int ((0 : Int32))), (2, .int (bI (mOwn me tm hA rA lT g))), (0, .ref h), (1, .int g)]) hx hb dX1_goes_31 rfl hl (by decide) rfl (fun ls hl => ?_)
        refine lv_iconst (v := 0) hx hb dX1_goes_32 (by decide) ?_
        refine lv_istore (lv' := [(4, .int ((0 : Int32))), (3, .int ((0 : Int32))), (2, .int (bI (mOwn me tm hA rA lT g))), (0, .ref h), (1, .int g)]) hx hb dX1_goes_33 hl (by decide) rfl (fun ls hl => ?_)
        refine lp_X1_goes_35 l dC dI h a1 a2 a3 a4 a5 a6 cA me tm hA rA lT jA pT cF g (mOwn me tm hA rA lT g) b4 S hK hP ⟨Nat.le_of_ble_eq_true rfl, Nat.le_of_ble_eq_true rfl⟩ (fun ls hl => ?_) 16 0 rfl ls (lv_sub hl [3, 4, 2, 1, 0] rfl)
        refine lv_iload_n hx hb dX1_goes_100 rfl (lv_at hl 3 rfl) ?_
        have er : bitsI (mGoq (mOwn me tm hA rA lT g) tm jA pT cF g) 16 = mGoes me tm hA rA lT jA pT cF g := by simp [mGoes, b4, c14, b21]
        exact W.iret (v := bitsI (mGoq (mOwn me tm hA rA lT g) tm jA pT cF g) 16) hx hb hr (fun t ht hW => ⟨congrArg (fun z => Outcome.returned (some (Value.int z))) er, ht⟩) (fun q h => absurd h List.not_mem_nil) dX1_goes_101
  · have b4 := bI_z c4
    refine lv_iconst (v := -1) hx hb dX1_goes_7 (by decide) ?_
    have er : (-1 : Int32) = mGoes me tm hA rA lT jA pT cF g := by simp [mGoes, b4]
    exact W.iret (v := (-1 : Int32)) hx hb hr (fun t ht hW => ⟨congrArg (fun z => Outcome.returned (some (Value.int z))) er, ht⟩) (fun q h => absurd h List.not_mem_nil) dX1_goes_8
theorem hd_X1_goes : yX1_goes.cls = RX1 ∧ yX1_goes.cls ≠ "java/lang/invoke/MethodHandle" ∧ yX1_goes.cls ≠ "java/lang/invoke/VarHandle" ∧ (parseMethodDescriptor yX1_goes.desc).map (fun d => d.parameters.length) = some 1 := by decide +kernel

theorem iwsX1_going : ∀ w ∈ u_ws RX1 TX1 8, w ∈ wsX1_going := fun _ h => List.mem_cons_of_mem _ (List.mem_append_right _ h)
set_option maxHeartbeats 4000000 in
set_option maxRecDepth 100000 in
theorem lp_X1_going_4 {p : Program} {e : Env} {s : State} {m : MethodId} {args : Array Value} {below : List Frame} {meth : Method} {c : Code} {cells slots : Nat} {Q : State → Prop} {H : Heap} {locs : List Loc} (l : Launch) (dC : Nat → ClassId) (dI : Nat → Nat → Nat) (h a1 a2 a3 a4 a5 a6 : Nat) (cA : ClassId) (me tm : Int32) (hA rA lT jA pT cF : Nat → Int32) (S : CallFix p m c cX1_going 3 s args wsX1_going RX1) (hK : va_K (dC, dI) vwCl [(cA, .int)] s) (hP : va_P (dC, dI) vwCl (wM h a1 a2 a3 a4 a5 a6 cA me tm hA rA lT jA pT cF) H) (hcs : cells + 0 ≤ 0 ∧ slots + 0 ≤ 0) (k : ∀ (ls : Array Slot), lv_has ls 3 [(0, .ref h), (1, .int (bitsI (mGrq me tm hA rA lT jA pT cF) 8)), (2, .int (nI 8))] → W p l e ({ frames := 3, cells := 0, slots := 0, locals := 67 }) s m args below meth c H locs cells slots Q (F0 m 30 ls [])) : ∀ (n i : Nat), i + n = 8 → ∀ (ls : Array Slot), lv_has ls 3 [(0, .ref h), (1, .int (bitsI (mGrq me tm hA rA lT jA pT cF) i)), (2, .int (nI i))] → W p l e ({ frames := 3, cells := 0, slots := 0, locals := 67 }) s m args below meth c H locs cells slots Q (F0 m 4 ls []) := by
  obtain ⟨hx, hb, hml, hown, hts⟩ := id S
  intro n
  induction n with
  | zero =>
    intro i hi ls hl
    obtain rfl : i = 8 := by omega
    refine lv_iload_n hx hb dX1_going_4 rfl (lv_at hl 2 rfl) ?_
    refine lv_bipush (v := 8) hx hb dX1_going_5 (by decide) ?_
    refine lv_icmp_ge (tgt := 30) hx hb dX1_going_7 (by decide) (fun c7 => ?_) (fun c7 => ?_)
    · exact k ls (lv_sub hl [0, 1, 2] rfl)
    · exact absurd c7 (by decide)
  | succ n ih =>
    intro i hi ls hl
    have hlt : i < 8 := by omega
    have hcl : (nI i).toNatClampNeg = i := nI_clamp (by omega)
    refine lv_iload_n hx hb dX1_going_4 rfl (lv_at hl 2 rfl) ?_
    refine lv_bipush (v := 8) hx hb dX1_going_5 (by decide) ?_
    refine lv_icmp_ge (tgt := 30) hx hb dX1_going_7 (by decide) (fun c7 => ?_) (fun c7 => ?_)
    · exact absurd c7 (nI_ge hlt (by decide))
    · refine lv_aload_n hx hb dX1_going_10 rfl (lv_at hl 0 rfl) ?_
      refine lv_iload_n hx hb dX1_going_11 rfl (lv_at hl 2 rfl) ?_
      refine rd_V (As := [.int (nI i)]) (rest := []) (ci := 1) (qc := (RX1, TX1, 8)) S (c_X1_goes l dC dI h a1 a2 a3 a4 a5 a6 cA me tm hA rA lT jA pT cF (nI i)) gX1_going_X1_goes rfl ⟨rfl, rfl⟩ hd_X1_goes ⟨Nat.le_of_ble_eq_true rfl, Nat.le_of_ble_eq_true rfl⟩ hK hP rfl rfl rfl hl.1 rfl (Nat.le_of_ble_eq_true rfl) dX1_going_12 hcs ?_
      refine lv_if_eq (tgt := 24) hx hb dX1_going_15 (by decide) (fun c15 => ?_) (fun c15 => ?_)
      · refine lv_iinc (v := nI (i + 1)) (lv' := [(2, .int (nI (i + 1))), (0, .ref h), (1, .int (bitsI (mGrq me tm hA rA lT jA pT cF) i))]) hx hb dX1_going_24 hl (k := 2) rfl (nI_1 _) (by decide) rfl (fun ls hl => ?_)
        refine lv_goto (tgt := 4) hx hb dX1_going_27 (by decide) ?_
        exact ih (i + 1) (by omega) ls (by rw [bitsI_f (q := mGrq me tm hA rA lT jA pT cF) (k := i) (by simp [mGrq, c15])]; exact lv_sub hl [1, 2, 0] rfl)
      · refine lv_iload_n hx hb dX1_going_18 rfl (lv_at hl 1 rfl) ?_
        refine lv_iconst (v := 1) hx hb dX1_going_19 (by decide) ?_
        refine lv_iload_n hx hb dX1_going_20 rfl (lv_at hl 2 rfl) ?_
        refine lv_ishl hx hb dX1_going_21 ?_
        refine lv_ior hx hb dX1_going_22 ?_
        refine lv_istore_n (lv' := [(1, .int ((bitsI (mGrq me tm hA rA lT jA pT cF) i) ||| (((1 : Int32)) <<< ((nI i) &&& 31)))), (0, .ref h), (2, .int (nI i))]) hx hb dX1_going_23 rfl hl (by decide) rfl (fun ls hl => ?_)
        refine lv_iinc (v := nI (i + 1)) (lv' := [(2, .int (nI (i + 1))), (1, .int ((bitsI (mGrq me tm hA rA lT jA pT cF) i) ||| (((1 : Int32)) <<< ((nI i) &&& 31)))), (0, .ref h)]) hx hb dX1_going_24 hl (k := 2) rfl (nI_1 _) (by decide) rfl (fun ls hl => ?_)
        refine lv_goto (tgt := 4) hx hb dX1_going_27 (by decide) ?_
        exact ih (i + 1) (by omega) ls (by rw [bitsI_t (q := mGrq me tm hA rA lT jA pT cF) (k := i) (by simp [mGrq, c15])]; exact lv_sub hl [2, 1, 0] rfl)
set_option maxHeartbeats 4000000 in
set_option maxRecDepth 100000 in
theorem c_X1_going (l : Launch) (dC : Nat → ClassId) (dI : Nat → Nat → Nat) (h a1 a2 a3 a4 a5 a6 : Nat) (cA : ClassId) (me tm : Int32) (hA rA lT jA pT cF : Nat → Int32) : Met l yX1_going wsX1_going ({ frames := 3, cells := 0, slots := 0, locals := 67 }) (PR [.ref h] dC dI cA (wM h a1 a2 a3 a4 a5 a6 cA me tm hA rA lT jA pT cF)) (QcRead (mGr me tm hA rA lT jA pT cF)) 0 0 (fun _ => False) := by
  refine Met.ofW (cc := cX1_going) (maxL := 3) (ret := some .int) (by decide) rfl ?_
  intro p e s m args below meth c s₁ B hml hv
  obtain ⟨rfl, hP, hK⟩ := hv
  have hx := B.exec
  have hb := B.bytes
  have hr := B.returns
  have hts := atoms_spec (ws := wsX1_going) B.pre
  have hown : s.vm.findClass RX1 = some m.cls := findClass_of_methodNamed B.named
  have hlocks := B.notSynchronized
  have S : CallFix p m c cX1_going 3 s ([.ref h] : List Value).toArray wsX1_going RX1 := ⟨hx, hb, hml, hown, hts⟩
  have hl := lv_entry ([.ref h]) (n := 3) (Nat.le_of_ble_eq_true rfl)
  rw [lg_entry_eq]
  generalize (lg_sl ([.ref h]) ++ List.replicate (3 - (lg_sl ([.ref h])).length) Slot.unset).toArray = ls at hl ⊢
  have hl : lv_has ls 3 [(0, .ref h)] := hl
  refine lv_iconst (v := 0) hx hb dX1_going_0 (by decide) ?_
  refine lv_istore_n (lv' := [(1, .int ((0 : Int32))), (0, .ref h)]) hx hb dX1_going_1 rfl hl (by decide) rfl (fun ls hl => ?_)
  refine lv_iconst (v := 0) hx hb dX1_going_2 (by decide) ?_
  refine lv_istore_n (lv' := [(2, .int ((0 : Int32))), (1, .int ((0 : Int32))), (0, .ref h)]) hx hb dX1_going_3 rfl hl (by decide) rfl (fun ls hl => ?_)
  refine lp_X1_going_4 l dC dI h a1 a2 a3 a4 a5 a6 cA me tm hA rA lT jA pT cF S hK hP ⟨Nat.le_of_ble_eq_true rfl, Nat.le_of_ble_eq_true rfl⟩ (fun ls hl => ?_) 8 0 rfl ls (lv_sub hl [2, 1, 0] rfl)
  refine lv_iload_n hx hb dX1_going_30 rfl (lv_at hl 1 rfl) ?_
  exact W.iret (v := bitsI (mGrq me tm hA rA lT jA pT cF) 8) hx hb hr (fun t ht hW => ⟨rfl, ht⟩) (fun q h => absurd h List.not_mem_nil) dX1_going_31
theorem hd_X1_going : yX1_going.cls = RX1 ∧ yX1_going.cls ≠ "java/lang/invoke/MethodHandle" ∧ yX1_going.cls ≠ "java/lang/invoke/VarHandle" ∧ (parseMethodDescriptor yX1_going.desc).map (fun d => d.parameters.length) = some 0 := by decide +kernel

theorem iwsX1_branches : ∀ w ∈ u_ws RX1 TX1 8, w ∈ wsX1_branches := fun _ h => List.mem_cons_of_mem _ (List.mem_append_right _ h)
set_option maxHeartbeats 4000000 in
set_option maxRecDepth 100000 in
theorem lp_X1_branches_4 {p : Program} {e : Env} {s : State} {m : MethodId} {args : Array Value} {below : List Frame} {meth : Method} {c : Code} {cells slots : Nat} {Q : State → Prop} {H : Heap} {locs : List Loc} (l : Launch) (dC : Nat → ClassId) (dI : Nat → Nat → Nat) (h a1 a2 a3 a4 a5 a6 : Nat) (cA : ClassId) (me tm : Int32) (hA rA lT jA pT cF : Nat → Int32) (S : CallFix p m c cX1_branches 3 s args wsX1_branches RX1) (hK : va_K (dC, dI) vwCl [(cA, .int)] s) (hP : va_P (dC, dI) vwCl (wM h a1 a2 a3 a4 a5 a6 cA me tm hA rA lT jA pT cF) H) (hcs : cells + 0 ≤ 0 ∧ slots + 0 ≤ 0) (k : ∀ (ls : Array Slot), lv_has ls 3 [(0, .ref h), (1, .int (cntI (mCnq tm jA pT) 136)), (2, .int (nI 136))] → W p l e ({ frames := 1, cells := 0, slots := 0, locals := 24 }) s m args below meth c H locs cells slots Q (F0 m 42 ls [])) : ∀ (n i : Nat), i + n = 136 → ∀ (ls : Array Slot), lv_has ls 3 [(0, .ref h), (1, .int (cntI (mCnq tm jA pT) i)), (2, .int (nI i))] → W p l e ({ frames := 1, cells := 0, slots := 0, locals := 24 }) s m args below meth c H locs cells slots Q (F0 m 4 ls []) := by
  obtain ⟨hx, hb, hml, hown, hts⟩ := id S
  intro n
  induction n with
  | zero =>
    intro i hi ls hl
    obtain rfl : i = 136 := by omega
    refine lv_iload_n hx hb dX1_branches_4 rfl (lv_at hl 2 rfl) ?_
    refine lv_sipush (v := 136) hx hb dX1_branches_5 (by decide) ?_
    refine lv_icmp_ge (tgt := 42) hx hb dX1_branches_8 (by decide) (fun c8 => ?_) (fun c8 => ?_)
    · exact k ls (lv_sub hl [0, 1, 2] rfl)
    · exact absurd c8 (by decide)
  | succ n ih =>
    intro i hi ls hl
    have hlt : i < 136 := by omega
    have hcl : (nI i).toNatClampNeg = i := nI_clamp (by omega)
    refine lv_iload_n hx hb dX1_branches_4 rfl (lv_at hl 2 rfl) ?_
    refine lv_sipush (v := 136) hx hb dX1_branches_5 (by decide) ?_
    refine lv_icmp_ge (tgt := 42) hx hb dX1_branches_8 (by decide) (fun c8 => ?_) (fun c8 => ?_)
    · exact absurd c8 (nI_ge hlt (by decide))
    · refine lv_iload_n hx hb dX1_branches_11 rfl (lv_at hl 1 rfl) ?_
      refine lv_aload_n hx hb dX1_branches_12 rfl (lv_at hl 0 rfl) ?_
      refine lv_iload_n hx hb dX1_branches_13 rfl (lv_at hl 2 rfl) ?_
      refine lv_bipush (v := 17) hx hb dX1_branches_14 (by decide) ?_
      refine lv_idiv hx hb dX1_branches_16 (by decide) ?_
      refine lv_top (x' := mDv i) (rfl) ?_
      refine lv_iload_n hx hb dX1_branches_17 rfl (lv_at hl 2 rfl) ?_
      refine lv_bipush (v := 17) hx hb dX1_branches_18 (by decide) ?_
      refine lv_irem hx hb dX1_branches_20 (by decide) ?_
      refine lv_iconst (v := 1) hx hb dX1_branches_21 (by decide) ?_
      refine lv_isub hx hb dX1_branches_22 ?_
      refine lv_top (x' := mMd i) (rfl) ?_
      refine rd_V (As := [.int (mDv i), .int (mMd i)]) (rest := [.int (cntI (mCnq tm jA pT) i)]) (ci := 1) (qc := (RX1, TX1, 8)) S (c_X1_till l dC dI h a1 a2 a3 a4 a5 a6 cA me tm hA rA lT jA pT cF (mDv i) (mMd i) (mBr_dm hlt)) gX1_branches_X1_till rfl ⟨rfl, rfl⟩ hd_X1_till ⟨Nat.le_of_ble_eq_true rfl, Nat.le_of_ble_eq_true rfl⟩ hK hP rfl rfl rfl hl.1 rfl (Nat.le_of_ble_eq_true rfl) dX1_branches_23 hcs ?_
      refine lv_if_le (tgt := 33) hx hb dX1_branches_26 (by decide) (fun c26 => ?_) (fun c26 => ?_)
      · refine lv_iconst (v := 0) hx hb dX1_branches_33 (by decide) ?_
        refine lv_iadd hx hb dX1_branches_34 ?_
        refine lv_top (x' := cntI (mCnq tm jA pT) (i + 1)) (by rw [cntI_f (q := mCnq tm jA pT) (k := i) (by simp [mCnq, c26])]; exact Int32.add_zero _) ?_
        refine lv_istore_n (lv' := [(1, .int (cntI (mCnq tm jA pT) (i + 1))), (0, .ref h), (2, .int (nI i))]) hx hb dX1_branches_35 rfl hl (by decide) rfl (fun ls hl => ?_)
        refine lv_iinc (v := nI (i + 1)) (lv' := [(2, .int (nI (i + 1))), (1, .int (cntI (mCnq tm jA pT) (i + 1))), (0, .ref h)]) hx hb dX1_branches_36 hl (k := 2) rfl (nI_1 _) (by decide) rfl (fun ls hl => ?_)
        refine lv_goto (tgt := 4) hx hb dX1_branches_39 (by decide) ?_
        exact ih (i + 1) (by omega) ls (lv_sub hl [2, 1, 0] rfl)
      · refine lv_iconst (v := 1) hx hb dX1_branches_29 (by decide) ?_
        refine lv_goto (tgt := 34) hx hb dX1_branches_30 (by decide) ?_
        refine lv_iadd hx hb dX1_branches_34 ?_
        refine lv_top (x' := cntI (mCnq tm jA pT) (i + 1)) ((cntI_t (q := mCnq tm jA pT) (k := i) (by simp [mCnq, c26])).symm) ?_
        refine lv_istore_n (lv' := [(1, .int (cntI (mCnq tm jA pT) (i + 1))), (0, .ref h), (2, .int (nI i))]) hx hb dX1_branches_35 rfl hl (by decide) rfl (fun ls hl => ?_)
        refine lv_iinc (v := nI (i + 1)) (lv' := [(2, .int (nI (i + 1))), (1, .int (cntI (mCnq tm jA pT) (i + 1))), (0, .ref h)]) hx hb dX1_branches_36 hl (k := 2) rfl (nI_1 _) (by decide) rfl (fun ls hl => ?_)
        refine lv_goto (tgt := 4) hx hb dX1_branches_39 (by decide) ?_
        exact ih (i + 1) (by omega) ls (lv_sub hl [2, 1, 0] rfl)
set_option maxHeartbeats 4000000 in
set_option maxRecDepth 100000 in
theorem c_X1_branches (l : Launch) (dC : Nat → ClassId) (dI : Nat → Nat → Nat) (h a1 a2 a3 a4 a5 a6 : Nat) (cA : ClassId) (me tm : Int32) (hA rA lT jA pT cF : Nat → Int32) : Met l yX1_branches wsX1_branches ({ frames := 1, cells := 0, slots := 0, locals := 24 }) (PR [.ref h] dC dI cA (wM h a1 a2 a3 a4 a5 a6 cA me tm hA rA lT jA pT cF)) (QcRead (mCnt tm jA pT)) 0 0 (fun _ => False) := by
  refine Met.ofW (cc := cX1_branches) (maxL := 3) (ret := some .int) (by decide) rfl ?_
  intro p e s m args below meth c s₁ B hml hv
  obtain ⟨rfl, hP, hK⟩ := hv
  have hx := B.exec
  have hb := B.bytes
  have hr := B.returns
  have hts := atoms_spec (ws := wsX1_branches) B.pre
  have hown : s.vm.findClass RX1 = some m.cls := findClass_of_methodNamed B.named
  have hlocks := B.notSynchronized
  have S : CallFix p m c cX1_branches 3 s ([.ref h] : List Value).toArray wsX1_branches RX1 := ⟨hx, hb, hml, hown, hts⟩
  have hl := lv_entry ([.ref h]) (n := 3) (Nat.le_of_ble_eq_true rfl)
  rw [lg_entry_eq]
  generalize (lg_sl ([.ref h]) ++ List.replicate (3 - (lg_sl ([.ref h])).length) Slot.unset).toArray = ls at hl ⊢
  have hl : lv_has ls 3 [(0, .ref h)] := hl
  refine lv_iconst (v := 0) hx hb dX1_branches_0 (by decide) ?_
  refine lv_istore_n (lv' := [(1, .int ((0 : Int32))), (0, .ref h)]) hx hb dX1_branches_1 rfl hl (by decide) rfl (fun ls hl => ?_)
  refine lv_iconst (v := 0) hx hb dX1_branches_2 (by decide) ?_
  refine lv_istore_n (lv' := [(2, .int ((0 : Int32))), (1, .int ((0 : Int32))), (0, .ref h)]) hx hb dX1_branches_3 rfl hl (by decide) rfl (fun ls hl => ?_)
  refine lp_X1_branches_4 l dC dI h a1 a2 a3 a4 a5 a6 cA me tm hA rA lT jA pT cF S hK hP ⟨Nat.le_of_ble_eq_true rfl, Nat.le_of_ble_eq_true rfl⟩ (fun ls hl => ?_) 136 0 rfl ls (lv_sub hl [2, 1, 0] rfl)
  refine lv_iload_n hx hb dX1_branches_42 rfl (lv_at hl 1 rfl) ?_
  exact W.iret (v := cntI (mCnq tm jA pT) 136) hx hb hr (fun t ht hW => ⟨rfl, ht⟩) (fun q h => absurd h List.not_mem_nil) dX1_branches_43
theorem hd_X1_branches : yX1_branches.cls = RX1 ∧ yX1_branches.cls ≠ "java/lang/invoke/MethodHandle" ∧ yX1_branches.cls ≠ "java/lang/invoke/VarHandle" ∧ (parseMethodDescriptor yX1_branches.desc).map (fun d => d.parameters.length) = some 0 := by decide +kernel

theorem iwsX1_look : ∀ w ∈ u_ws RX1 TX1 8, w ∈ wsX1_look := fun _ h => List.mem_cons_of_mem _ (List.mem_append_right _ h)
set_option maxHeartbeats 4000000 in
set_option maxRecDepth 100000 in
theorem c_X1_look (l : Launch) (dC : Nat → ClassId) (dI : Nat → Nat → Nat) (h a1 a2 a3 a4 a5 a6 : Nat) (cA : ClassId) (me tm : Int32) (hA rA lT jA pT cF : Nat → Int32) (w : Int32) (hme : ¬ ((1 : Int32) <<< (me &&& 31)) = 0) : Met l yX1_look wsX1_look ({ frames := 4, cells := 0, slots := 0, locals := 89 }) (PR [.ref h, .int w] dC dI cA (wM h a1 a2 a3 a4 a5 a6 cA me tm hA rA lT jA pT cF)) (QcRead (mLook me tm hA rA lT jA pT cF w)) 0 0 (fun _ => False) := by
  refine Met.ofW (cc := cX1_look) (maxL := 2) (ret := some .int) (by decide) rfl ?_
  intro p e s m args below meth c s₁ B hml hv
  obtain ⟨rfl, hP, hK⟩ := hv
  have hx := B.exec
  have hb := B.bytes
  have hr := B.returns
  have hts := atoms_spec (ws := wsX1_look) B.pre
  have hown : s.vm.findClass RX1 = some m.cls := findClass_of_methodNamed B.named
  have hlocks := B.notSynchronized
  have S : CallFix p m c cX1_look 2 s ([.ref h, .int w] : List Value).toArray wsX1_look RX1 := ⟨hx, hb, hml, hown, hts⟩
  have hl := lv_entry ([.ref h, .int w]) (n := 2) (Nat.le_of_ble_eq_true rfl)
  rw [lg_entry_eq]
  generalize (lg_sl ([.ref h, .int w]) ++ List.replicate (2 - (lg_sl ([.ref h, .int w])).length) Slot.unset).toArray = ls at hl ⊢
  have hl : lv_has ls 2 [(0, .ref h), (1, .int w)] := hl
  refine lv_iload_n hx hb dX1_look_0 rfl (lv_at hl 1 rfl) ?_
  rcases Decidable.em (w = 0) with hw0 | hw0
  · refine lv_tableIn (off := 47) (tgt := 48) hx hb dX1_look_1 (by rw [hw0]; decide) (by rw [hw0]; decide) (by rw [hw0]; rfl) (by decide) ?_
    refine lv_aload_n hx hb dX1_look_48 rfl (lv_at hl 0 rfl) ?_
    refine va_get (D := (dC, dI)) (ci := 1) (v := .int tm) (C := RX1) (T := TX1) (N := 8) hx hb hts iwsX1_look hown hK hP 0 rfl rfl 1 (by decide) (hts (.fieldLink RX1 39 "BranchTimesModel" "time" "I") (by decide +kernel)) (fun _ h9 => h9) rfl dX1_look_49 ?_
    have er : tm = mLook me tm hA rA lT jA pT cF w := by unfold mLook; rw [if_pos hw0]
    exact W.iret (v := tm) hx hb hr (fun t ht hW => ⟨congrArg (fun z => Outcome.returned (some (Value.int z))) er, ht⟩) (fun q h => absurd h List.not_mem_nil) dX1_look_52
  rcases Decidable.em (w = 1) with hw1 | hw1
  · refine lv_tableIn (off := 52) (tgt := 53) hx hb dX1_look_1 (by rw [hw1]; decide) (by rw [hw1]; decide) (by rw [hw1]; rfl) (by decide) ?_
    refine lv_aload_n hx hb dX1_look_53 rfl (lv_at hl 0 rfl) ?_
    refine rd_V (As := []) (rest := []) (ci := 1) (qc := (RX1, TX1, 8)) S (c_X1_neighbours l dC dI h a1 a2 a3 a4 a5 a6 cA me tm hA rA lT jA pT cF) gX1_look_X1_neighbours rfl ⟨rfl, rfl⟩ hd_X1_neighbours ⟨Nat.le_of_ble_eq_true rfl, Nat.le_of_ble_eq_true rfl⟩ hK hP rfl rfl rfl hl.1 rfl (Nat.le_of_ble_eq_true rfl) dX1_look_54 ⟨Nat.le_of_ble_eq_true rfl, Nat.le_of_ble_eq_true rfl⟩ ?_
    have er : mNb tm hA = mLook me tm hA rA lT jA pT cF w := by unfold mLook; rw [if_neg (by rw [hw1]; decide), if_pos hw1]
    exact W.iret (v := mNb tm hA) hx hb hr (fun t ht hW => ⟨congrArg (fun z => Outcome.returned (some (Value.int z))) er, ht⟩) (fun q h => absurd h List.not_mem_nil) dX1_look_57
  rcases Decidable.em (w = 2) with hw2 | hw2
  · refine lv_tableIn (off := 57) (tgt := 58) hx hb dX1_look_1 (by rw [hw2]; decide) (by rw [hw2]; decide) (by rw [hw2]; rfl) (by decide) ?_
    refine lv_aload_n hx hb dX1_look_58 rfl (lv_at hl 0 rfl) ?_
    refine rd_V (As := []) (rest := []) (ci := 1) (qc := (RX1, TX1, 8)) S (c_X1_isFirst l dC dI h a1 a2 a3 a4 a5 a6 cA me tm hA rA lT jA pT cF) gX1_look_X1_isFirst rfl ⟨rfl, rfl⟩ hd_X1_isFirst ⟨Nat.le_of_ble_eq_true rfl, Nat.le_of_ble_eq_true rfl⟩ hK hP rfl rfl rfl hl.1 rfl (Nat.le_of_ble_eq_true rfl) dX1_look_59 ⟨Nat.le_of_ble_eq_true rfl, Nat.le_of_ble_eq_true rfl⟩ ?_
    refine lv_if_eq (tgt := 69) hx hb dX1_look_62 (by decide) (fun c62 => ?_) (fun c62 => ?_)
    · have b62 := bI_z c62
      refine lv_iconst (v := 0) hx hb dX1_look_69 (by decide) ?_
      have er : (0 : Int32) = mLook me tm hA rA lT jA pT cF w := by unfold mLook; rw [if_neg (by rw [hw2]; decide), if_neg (by rw [hw2]; decide), if_pos hw2]; exact bI_0 b62
      exact W.iret (v := (0 : Int32)) hx hb hr (fun t ht hW => ⟨congrArg (fun z => Outcome.returned (some (Value.int z))) er, ht⟩) (fun q h => absurd h List.not_mem_nil) dX1_look_70
    · have b62 := bI_nz c62
      refine lv_iconst (v := 1) hx hb dX1_look_65 (by decide) ?_
      refine lv_goto (tgt := 70) hx hb dX1_look_66 (by decide) ?_
      have er : (1 : Int32) = mLook me tm hA rA lT jA pT cF w := by unfold mLook; rw [if_neg (by rw [hw2]; decide), if_neg (by rw [hw2]; decide), if_pos hw2]; exact bI_1 b62
      exact W.iret (v := (1 : Int32)) hx hb hr (fun t ht hW => ⟨congrArg (fun z => Outcome.returned (some (Value.int z))) er, ht⟩) (fun q h => absurd h List.not_mem_nil) dX1_look_70
  rcases Decidable.em (w = 3) with hw3 | hw3
  · refine lv_tableIn (off := 70) (tgt := 71) hx hb dX1_look_1 (by rw [hw3]; decide) (by rw [hw3]; decide) (by rw [hw3]; rfl) (by decide) ?_
    refine lv_aload_n hx hb dX1_look_71 rfl (lv_at hl 0 rfl) ?_
    refine rd_V (As := []) (rest := []) (ci := 1) (qc := (RX1, TX1, 8)) S (c_X1_isAsking l dC dI h a1 a2 a3 a4 a5 a6 cA me tm hA rA lT jA pT cF hme) gX1_look_X1_isAsking rfl ⟨rfl, rfl⟩ hd_X1_isAsking ⟨Nat.le_of_ble_eq_true rfl, Nat.le_of_ble_eq_true rfl⟩ hK hP rfl rfl rfl hl.1 rfl (Nat.le_of_ble_eq_true rfl) dX1_look_72 ⟨Nat.le_of_ble_eq_true rfl, Nat.le_of_ble_eq_true rfl⟩ ?_
    refine lv_if_eq (tgt := 82) hx hb dX1_look_75 (by decide) (fun c75 => ?_) (fun c75 => ?_)
    · have b75 := bI_z c75
      refine lv_iconst (v := 0) hx hb dX1_look_82 (by decide) ?_
      have er : (0 : Int32) = mLook me tm hA rA lT jA pT cF w := by unfold mLook; rw [if_neg (by rw [hw3]; decide), if_neg (by rw [hw3]; decide), if_neg (by rw [hw3]; decide), if_pos hw3]; exact bI_0 b75
      exact W.iret (v := (0 : Int32)) hx hb hr (fun t ht hW => ⟨congrArg (fun z => Outcome.returned (some (Value.int z))) er, ht⟩) (fun q h => absurd h List.not_mem_nil) dX1_look_83
    · have b75 := bI_nz c75
      refine lv_iconst (v := 1) hx hb dX1_look_78 (by decide) ?_
      refine lv_goto (tgt := 83) hx hb dX1_look_79 (by decide) ?_
      have er : (1 : Int32) = mLook me tm hA rA lT jA pT cF w := by unfold mLook; rw [if_neg (by rw [hw3]; decide), if_neg (by rw [hw3]; decide), if_neg (by rw [hw3]; decide), if_pos hw3]; exact bI_1 b75
      exact W.iret (v := (1 : Int32)) hx hb hr (fun t ht hW => ⟨congrArg (fun z => Outcome.returned (some (Value.int z))) er, ht⟩) (fun q h => absurd h List.not_mem_nil) dX1_look_83
  rcases Decidable.em (w = 4) with hw4 | hw4
  · refine lv_tableIn (off := 83) (tgt := 84) hx hb dX1_look_1 (by rw [hw4]; decide) (by rw [hw4]; decide) (by rw [hw4]; rfl) (by decide) ?_
    refine lv_aload_n hx hb dX1_look_84 rfl (lv_at hl 0 rfl) ?_
    refine rd_V (As := []) (rest := []) (ci := 1) (qc := (RX1, TX1, 8)) S (c_X1_isCrowded l dC dI h a1 a2 a3 a4 a5 a6 cA me tm hA rA lT jA pT cF) gX1_look_X1_isCrowded rfl ⟨rfl, rfl⟩ hd_X1_isCrowded ⟨Nat.le_of_ble_eq_true rfl, Nat.le_of_ble_eq_true rfl⟩ hK hP rfl rfl rfl hl.1 rfl (Nat.le_of_ble_eq_true rfl) dX1_look_85 ⟨Nat.le_of_ble_eq_true rfl, Nat.le_of_ble_eq_true rfl⟩ ?_
    refine lv_if_eq (tgt := 95) hx hb dX1_look_88 (by decide) (fun c88 => ?_) (fun c88 => ?_)
    · have b88 := bI_z c88
      refine lv_iconst (v := 0) hx hb dX1_look_95 (by decide) ?_
      have er : (0 : Int32) = mLook me tm hA rA lT jA pT cF w := by unfold mLook; rw [if_neg (by rw [hw4]; decide), if_neg (by rw [hw4]; decide), if_neg (by rw [hw4]; decide), if_neg (by rw [hw4]; decide), if_pos hw4]; exact bI_0 b88
      exact W.iret (v := (0 : Int32)) hx hb hr (fun t ht hW => ⟨congrArg (fun z => Outcome.returned (some (Value.int z))) er, ht⟩) (fun q h => absurd h List.not_mem_nil) dX1_look_96
    · have b88 := bI_nz c88
      refine lv_iconst (v := 1) hx hb dX1_look_91 (by decide) ?_
      refine lv_goto (tgt := 96) hx hb dX1_look_92 (by decide) ?_
      have er : (1 : Int32) = mLook me tm hA rA lT jA pT cF w := by unfold mLook; rw [if_neg (by rw [hw4]; decide), if_neg (by rw [hw4]; decide), if_neg (by rw [hw4]; decide), if_neg (by rw [hw4]; decide), if_pos hw4]; exact bI_1 b88
      exact W.iret (v := (1 : Int32)) hx hb hr (fun t ht hW => ⟨congrArg (fun z => Outcome.returned (some (Value.int z))) er, ht⟩) (fun q h => absurd h List.not_mem_nil) dX1_look_96
  rcases Decidable.em (w = 5) with hw5 | hw5
  · refine lv_tableIn (off := 96) (tgt := 97) hx hb dX1_look_1 (by rw [hw5]; decide) (by rw [hw5]; decide) (by rw [hw5]; rfl) (by decide) ?_
    refine lv_aload_n hx hb dX1_look_97 rfl (lv_at hl 0 rfl) ?_
    refine va_get (D := (dC, dI)) (ci := 1) (v := .int me) (C := RX1) (T := TX1) (N := 8) hx hb hts iwsX1_look hown hK hP 0 rfl rfl 0 (by decide) (hts (.fieldLink RX1 28 "BranchTimesModel" "me" "I") (by decide +kernel)) (fun _ h9 => h9) rfl dX1_look_98 ?_
    have er : me = mLook me tm hA rA lT jA pT cF w := by unfold mLook; rw [if_neg (by rw [hw5]; decide), if_neg (by rw [hw5]; decide), if_neg (by rw [hw5]; decide), if_neg (by rw [hw5]; decide), if_neg (by rw [hw5]; decide), if_pos hw5]
    exact W.iret (v := me) hx hb hr (fun t ht hW => ⟨congrArg (fun z => Outcome.returned (some (Value.int z))) er, ht⟩) (fun q h => absurd h List.not_mem_nil) dX1_look_101
  rcases Decidable.em (w = 6) with hw6 | hw6
  · refine lv_tableIn (off := 101) (tgt := 102) hx hb dX1_look_1 (by rw [hw6]; decide) (by rw [hw6]; decide) (by rw [hw6]; rfl) (by decide) ?_
    refine lv_aload_n hx hb dX1_look_102 rfl (lv_at hl 0 rfl) ?_
    refine rd_V (As := []) (rest := []) (ci := 1) (qc := (RX1, TX1, 8)) S (c_X1_going l dC dI h a1 a2 a3 a4 a5 a6 cA me tm hA rA lT jA pT cF) gX1_look_X1_going rfl ⟨rfl, rfl⟩ hd_X1_going ⟨Nat.le_of_ble_eq_true rfl, Nat.le_of_ble_eq_true rfl⟩ hK hP rfl rfl rfl hl.1 rfl (Nat.le_of_ble_eq_true rfl) dX1_look_103 ⟨Nat.le_of_ble_eq_true rfl, Nat.le_of_ble_eq_true rfl⟩ ?_
    have er : mGr me tm hA rA lT jA pT cF = mLook me tm hA rA lT jA pT cF w := by unfold mLook; rw [if_neg (by rw [hw6]; decide), if_neg (by rw [hw6]; decide), if_neg (by rw [hw6]; decide), if_neg (by rw [hw6]; decide), if_neg (by rw [hw6]; decide), if_neg (by rw [hw6]; decide), if_pos hw6]
    exact W.iret (v := mGr me tm hA rA lT jA pT cF) hx hb hr (fun t ht hW => ⟨congrArg (fun z => Outcome.returned (some (Value.int z))) er, ht⟩) (fun q h => absurd h List.not_mem_nil) dX1_look_106
  rcases Decidable.em (w = 7) with hw7 | hw7
  · refine lv_tableIn (off := 106) (tgt := 107) hx hb dX1_look_1 (by rw [hw7]; decide) (by rw [hw7]; decide) (by rw [hw7]; rfl) (by decide) ?_
    refine lv_aload_n hx hb dX1_look_107 rfl (lv_at hl 0 rfl) ?_
    refine rd_V (As := []) (rest := []) (ci := 1) (qc := (RX1, TX1, 8)) S (c_X1_branches l dC dI h a1 a2 a3 a4 a5 a6 cA me tm hA rA lT jA pT cF) gX1_look_X1_branches rfl ⟨rfl, rfl⟩ hd_X1_branches ⟨Nat.le_of_ble_eq_true rfl, Nat.le_of_ble_eq_true rfl⟩ hK hP rfl rfl rfl hl.1 rfl (Nat.le_of_ble_eq_true rfl) dX1_look_108 ⟨Nat.le_of_ble_eq_true rfl, Nat.le_of_ble_eq_true rfl⟩ ?_
    have er : mCnt tm jA pT = mLook me tm hA rA lT jA pT cF w := by unfold mLook; rw [if_neg (by rw [hw7]; decide), if_neg (by rw [hw7]; decide), if_neg (by rw [hw7]; decide), if_neg (by rw [hw7]; decide), if_neg (by rw [hw7]; decide), if_neg (by rw [hw7]; decide), if_neg (by rw [hw7]; decide), if_pos hw7]
    exact W.iret (v := mCnt tm jA pT) hx hb hr (fun t ht hW => ⟨congrArg (fun z => Outcome.returned (some (Value.int z))) er, ht⟩) (fun q h => absurd h List.not_mem_nil) dX1_look_111
  refine lv_tableOut (tgt := 112) hx hb dX1_look_1 (tb_out8 hw0 hw1 hw2 hw3 hw4 hw5 hw6 hw7) (by decide) ?_
  refine lv_iconst (v := -1) hx hb dX1_look_112 (by decide) ?_
  have er : (-1 : Int32) = mLook me tm hA rA lT jA pT cF w := by unfold mLook; rw [if_neg hw0, if_neg hw1, if_neg hw2, if_neg hw3, if_neg hw4, if_neg hw5, if_neg hw6, if_neg hw7]
  exact W.iret (v := (-1 : Int32)) hx hb hr (fun t ht hW => ⟨congrArg (fun z => Outcome.returned (some (Value.int z))) er, ht⟩) (fun q h => absurd h List.not_mem_nil) dX1_look_113
theorem hd_X1_look : yX1_look.cls = RX1 ∧ yX1_look.cls ≠ "java/lang/invoke/MethodHandle" ∧ yX1_look.cls ≠ "java/lang/invoke/VarHandle" ∧ (parseMethodDescriptor yX1_look.desc).map (fun d => d.parameters.length) = some 1 := by decide +kernel
end
section
theorem iwsX1_tick : ∀ w ∈ u_ws RX1 TX1 8, w ∈ wsX1_tick := fun _ h => List.mem_cons_of_mem _ (List.mem_append_right _ h)
set_option maxHeartbeats 4000000 in
set_option maxRecDepth 100000 in
theorem c_X1_tick (l : Launch) (dC : Nat → ClassId) (dI : Nat → Nat → Nat) (h a1 a2 a3 a4 a5 a6 : Nat) (cA : ClassId) (me tm : Int32) (hA rA lT jA pT cF : Nat → Int32) (n : Int32) (sz : Nat) : Met l yX1_tick wsX1_tick ({ frames := 0, cells := 0, slots := 0, locals := 0 }) (PW [.ref h, .int n] dC dI cA (wM h a1 a2 a3 a4 a5 a6 cA me tm hA rA lT jA pT cF) sz) (QWi dC dI (xTickR tm n) (wM h a1 a2 a3 a4 a5 a6 cA me tm hA rA lT jA pT cF) (wM h a1 a2 a3 a4 a5 a6 cA me (xTickT tm n) hA rA lT jA pT cF) sz) 0 0 (va_A (wM h a1 a2 a3 a4 a5 a6 cA me tm hA rA lT jA pT cF) sz) := by
  refine Met.ofW (cc := cX1_tick) (maxL := 2) (ret := some .int) (by decide) rfl ?_
  intro p e s m args below meth c s₁ B hml hv
  obtain ⟨rfl, hsz, hP, hK, hD0⟩ := hv
  have hx := B.exec
  have hb := B.bytes
  have hr := B.returns
  have hts := atoms_spec (ws := wsX1_tick) B.pre
  have hown : s.vm.findClass RX1 = some m.cls := findClass_of_methodNamed B.named
  have hlocks := B.notSynchronized
  have S : CallFix p m c cX1_tick 2 s ([.ref h, .int n] : List Value).toArray wsX1_tick RX1 := ⟨hx, hb, hml, hown, hts⟩
  subst hsz
  have hD := hD0.self (sz := s.heap.size)
  generalize hAe : va_A (wM h a1 a2 a3 a4 a5 a6 cA me tm hA rA lT jA pT cF) s.heap.size = A at hD ⊢
  have hAA : ∀ q : Nat, s.heap.size ≤ q → A q := fun q h => by rw [← hAe]; exact Or.inr h
  have hS : va_S A s.heap s.heap [] := va_S.rf
  have hQ9 := hAe
  have hl := lv_entry ([.ref h, .int n]) (n := 2) (Nat.le_of_ble_eq_true rfl)
  rw [lg_entry_eq]
  generalize (lg_sl ([.ref h, .int n]) ++ List.replicate (2 - (lg_sl ([.ref h, .int n])).length) Slot.unset).toArray = ls at hl ⊢
  have hl : lv_has ls 2 [(0, .ref h), (1, .int n)] := hl
  refine lv_iload_n hx hb dX1_tick_0 rfl (lv_at hl 1 rfl) ?_
  refine lv_iconst (v := 1) hx hb dX1_tick_1 (by decide) ?_
  refine lv_icmp_lt (tgt := 22) hx hb dX1_tick_2 (by decide) (fun c2 => ?_) (fun c2 => ?_)
  · refine lv_iconst (v := -1) hx hb dX1_tick_22 (by decide) ?_
    have e1 : xTickT tm n = tm := by simp [xTickR, xTickT, xTickB, c2]
    have hP9 : va_P (dC, dI) vwCl (wM h a1 a2 a3 a4 a5 a6 cA me (xTickT tm n) hA rA lT jA pT cF) s.heap := by rw [e1]; exact hP
    have er : (-1 : Int32) = xTickR tm n := by simp [xTickR, xTickT, xTickB, c2]
    exact W.iret (v := (-1 : Int32)) hx hb hr (fun t ht hW => ⟨⟨_, (), rfl, er, by dsimp only; rw [ht]; exact hP9⟩, by rw [hQ9]; exact hS.F ht⟩) hS.2.2 dX1_tick_23
  · refine lv_iload_n hx hb dX1_tick_5 rfl (lv_at hl 1 rfl) ?_
    refine lv_bipush (v := 100) hx hb dX1_tick_6 (by decide) ?_
    refine lv_icmp_gt (tgt := 22) hx hb dX1_tick_8 (by decide) (fun c8 => ?_) (fun c8 => ?_)
    · refine lv_iconst (v := -1) hx hb dX1_tick_22 (by decide) ?_
      have e1 : xTickT tm n = tm := by simp [xTickR, xTickT, xTickB, c2, c8]
      have hP9 : va_P (dC, dI) vwCl (wM h a1 a2 a3 a4 a5 a6 cA me (xTickT tm n) hA rA lT jA pT cF) s.heap := by rw [e1]; exact hP
      have er : (-1 : Int32) = xTickR tm n := by simp [xTickR, xTickT, xTickB, c2, c8]
      exact W.iret (v := (-1 : Int32)) hx hb hr (fun t ht hW => ⟨⟨_, (), rfl, er, by dsimp only; rw [ht]; exact hP9⟩, by rw [hQ9]; exact hS.F ht⟩) hS.2.2 dX1_tick_23
    · refine lv_aload_n hx hb dX1_tick_11 rfl (lv_at hl 0 rfl) ?_
      refine va_get (D := (dC, dI)) (ci := 1) (v := .int tm) (C := RX1) (T := TX1) (N := 8) hx hb hts iwsX1_tick hown hK hP 0 rfl rfl 1 (by decide) (hts (.fieldLink RX1 39 "BranchTimesModel" "time" "I") (by decide +kernel)) (fun _ h9 => h9) rfl dX1_tick_12 ?_
      refine lv_iload_n hx hb dX1_tick_15 rfl (lv_at hl 1 rfl) ?_
      refine lv_iadd hx hb dX1_tick_16 ?_
      refine lv_ldc (v := 100000) hx hb hown (hts (.constant RX1 42 (100000)) (by decide +kernel)) dX1_tick_17 ?_
      refine lv_icmp_le (tgt := 24) hx hb dX1_tick_19 (by decide) (fun c19 => ?_) (fun c19 => ?_)
      · refine lv_aload_n hx hb dX1_tick_24 rfl (lv_at hl 0 rfl) ?_
        refine lv_dup hx hb dX1_tick_25 rfl ?_
        refine va_get (D := (dC, dI)) (ci := 1) (v := .int tm) (C := RX1) (T := TX1) (N := 8) hx hb hts iwsX1_tick hown hK hP 0 rfl rfl 1 (by decide) (hts (.fieldLink RX1 39 "BranchTimesModel" "time" "I") (by decide +kernel)) (fun _ h9 => h9) rfl dX1_tick_26 ?_
        refine lv_iload_n hx hb dX1_tick_29 rfl (lv_at hl 1 rfl) ?_
        refine lv_iadd hx hb dX1_tick_30 ?_
        refine va_put (D := (dC, dI)) (ci := 1) (v := .int (tm + n)) (ty := .int) (C := RX1) (T := TX1) (N := 8) hx hb hts iwsX1_tick tyX1 tyX1_ok nmX1 hown hK hP hD hS 0 rfl rfl 1 (by decide) (hts (.fieldLink RX1 39 "BranchTimesModel" "time" "I") (by decide +kernel)) (fun _ h9 => h9) rfl (by decide +kernel) rfl rfl (Nat.le_of_ble_eq_true rfl) dX1_tick_31 (fun H locs hP hD hS => ?_)
        have hP : va_P (dC, dI) vwCl (wM h a1 a2 a3 a4 a5 a6 cA me (tm + n) hA rA lT jA pT cF) H := hP
        have hD : va_D A (wM h a1 a2 a3 a4 a5 a6 cA me (tm + n) hA rA lT jA pT cF) := hD
        refine lv_aload_n hx hb dX1_tick_34 rfl (lv_at hl 0 rfl) ?_
        refine va_get (D := (dC, dI)) (ci := 1) (v := .int (tm + n)) (C := RX1) (T := TX1) (N := 8) hx hb hts iwsX1_tick hown hK hP 0 rfl rfl 1 (by decide) (hts (.fieldLink RX1 39 "BranchTimesModel" "time" "I") (by decide +kernel)) (fun _ h9 => h9) rfl dX1_tick_35 ?_
        have e1 : xTickT tm n = tm + n := by simp [xTickR, xTickT, xTickB, c2, c8, c19]
        have hP9 : va_P (dC, dI) vwCl (wM h a1 a2 a3 a4 a5 a6 cA me (xTickT tm n) hA rA lT jA pT cF) H := by rw [e1]; exact hP
        have er : tm + n = xTickR tm n := by simp [xTickR, xTickT, xTickB, c2, c8, c19]
        exact W.iret (v := tm + n) hx hb hr (fun t ht hW => ⟨⟨_, (), rfl, er, by dsimp only; rw [ht]; exact hP9⟩, by rw [hQ9]; exact hS.F ht⟩) hS.2.2 dX1_tick_38
      · refine lv_iconst (v := -1) hx hb dX1_tick_22 (by decide) ?_
        have e1 : xTickT tm n = tm := by simp [xTickR, xTickT, xTickB, c2, c8, c19]
        have hP9 : va_P (dC, dI) vwCl (wM h a1 a2 a3 a4 a5 a6 cA me (xTickT tm n) hA rA lT jA pT cF) s.heap := by rw [e1]; exact hP
        have er : (-1 : Int32) = xTickR tm n := by simp [xTickR, xTickT, xTickB, c2, c8, c19]
        exact W.iret (v := (-1 : Int32)) hx hb hr (fun t ht hW => ⟨⟨_, (), rfl, er, by dsimp only; rw [ht]; exact hP9⟩, by rw [hQ9]; exact hS.F ht⟩) hS.2.2 dX1_tick_23
theorem hd_X1_tick : yX1_tick.cls = RX1 ∧ yX1_tick.cls ≠ "java/lang/invoke/MethodHandle" ∧ yX1_tick.cls ≠ "java/lang/invoke/VarHandle" ∧ (parseMethodDescriptor yX1_tick.desc).map (fun d => d.parameters.length) = some 1 := by decide +kernel

theorem iwsX1_hello : ∀ w ∈ u_ws RX1 TX1 8, w ∈ wsX1_hello := fun _ h => List.mem_cons_of_mem _ (List.mem_append_right _ h)
set_option maxHeartbeats 4000000 in
set_option maxRecDepth 100000 in
theorem c_X1_hello (l : Launch) (dC : Nat → ClassId) (dI : Nat → Nat → Nat) (h a1 a2 a3 a4 a5 a6 : Nat) (cA : ClassId) (me tm : Int32) (hA rA lT jA pT cF : Nat → Int32) (n : Int32) (sz : Nat) : Met l yX1_hello wsX1_hello ({ frames := 0, cells := 0, slots := 0, locals := 0 }) (PW [.ref h, .int n] dC dI cA (wM h a1 a2 a3 a4 a5 a6 cA me tm hA rA lT jA pT cF) sz) (QWi dC dI (bI (!mHeB me n)) (wM h a1 a2 a3 a4 a5 a6 cA me tm hA rA lT jA pT cF) (wM h a1 a2 a3 a4 a5 a6 cA me tm (mHeA me tm hA n) rA lT jA pT cF) sz) 0 0 (va_A (wM h a1 a2 a3 a4 a5 a6 cA me tm hA rA lT jA pT cF) sz) := by
  refine Met.ofW (cc := cX1_hello) (maxL := 2) (ret := some .boolean) (by decide) rfl ?_
  intro p e s m args below meth c s₁ B hml hv
  obtain ⟨rfl, hsz, hP, hK, hD0⟩ := hv
  have hx := B.exec
  have hb := B.bytes
  have hr := B.returns
  have hts := atoms_spec (ws := wsX1_hello) B.pre
  have hown : s.vm.findClass RX1 = some m.cls := findClass_of_methodNamed B.named
  have hlocks := B.notSynchronized
  have S : CallFix p m c cX1_hello 2 s ([.ref h, .int n] : List Value).toArray wsX1_hello RX1 := ⟨hx, hb, hml, hown, hts⟩
  subst hsz
  have hD := hD0.self (sz := s.heap.size)
  generalize hAe : va_A (wM h a1 a2 a3 a4 a5 a6 cA me tm hA rA lT jA pT cF) s.heap.size = A at hD ⊢
  have hAA : ∀ q : Nat, s.heap.size ≤ q → A q := fun q h => by rw [← hAe]; exact Or.inr h
  have hS : va_S A s.heap s.heap [] := va_S.rf
  have hQ9 := hAe
  have hl := lv_entry ([.ref h, .int n]) (n := 2) (Nat.le_of_ble_eq_true rfl)
  rw [lg_entry_eq]
  generalize (lg_sl ([.ref h, .int n]) ++ List.replicate (2 - (lg_sl ([.ref h, .int n])).length) Slot.unset).toArray = ls at hl ⊢
  have hl : lv_has ls 2 [(0, .ref h), (1, .int n)] := hl
  refine lv_iload_n hx hb dX1_hello_0 rfl (lv_at hl 1 rfl) ?_
  refine lv_if_lt (tgt := 18) hx hb dX1_hello_1 (by decide) (fun c1 => ?_) (fun c1 => ?_)
  · refine lv_iconst (v := 0) hx hb dX1_hello_18 (by decide) ?_
    have e2 : mHeA me tm hA n = hA := by simp [mHeB, mHeA, bI, c1]
    have hP9 : va_P (dC, dI) vwCl (wM h a1 a2 a3 a4 a5 a6 cA me tm (mHeA me tm hA n) rA lT jA pT cF) s.heap := by rw [e2]; exact hP
    have er : (0 : Int32) = bI (!mHeB me n) := by simp [mHeB, mHeA, bI, c1]
    exact W.zret (v := (0 : Int32)) (ty := .boolean) hx hb hr rfl (fun t ht hW => ⟨⟨_, (), rfl, er, by dsimp only; rw [ht]; exact hP9⟩, by rw [hQ9]; exact hS.F ht⟩) hS.2.2 dX1_hello_19
  · refine lv_iload_n hx hb dX1_hello_4 rfl (lv_at hl 1 rfl) ?_
    refine lv_bipush (v := 9) hx hb dX1_hello_5 (by decide) ?_
    refine lv_icmp_gt (tgt := 18) hx hb dX1_hello_7 (by decide) (fun c7 => ?_) (fun c7 => ?_)
    · refine lv_iconst (v := 0) hx hb dX1_hello_18 (by decide) ?_
      have e2 : mHeA me tm hA n = hA := by simp [mHeB, mHeA, bI, c1, c7]
      have hP9 : va_P (dC, dI) vwCl (wM h a1 a2 a3 a4 a5 a6 cA me tm (mHeA me tm hA n) rA lT jA pT cF) s.heap := by rw [e2]; exact hP
      have er : (0 : Int32) = bI (!mHeB me n) := by simp [mHeB, mHeA, bI, c1, c7]
      exact W.zret (v := (0 : Int32)) (ty := .boolean) hx hb hr rfl (fun t ht hW => ⟨⟨_, (), rfl, er, by dsimp only; rw [ht]; exact hP9⟩, by rw [hQ9]; exact hS.F ht⟩) hS.2.2 dX1_hello_19
    · refine lv_iload_n hx hb dX1_hello_10 rfl (lv_at hl 1 rfl) ?_
      refine lv_aload_n hx hb dX1_hello_11 rfl (lv_at hl 0 rfl) ?_
      refine va_get (D := (dC, dI)) (ci := 1) (v := .int me) (C := RX1) (T := TX1) (N := 8) hx hb hts iwsX1_hello hown hK hP 0 rfl rfl 0 (by decide) (hts (.fieldLink RX1 28 "BranchTimesModel" "me" "I") (by decide +kernel)) (fun _ h9 => h9) rfl dX1_hello_12 ?_
      refine lv_icmp_ne (tgt := 20) hx hb dX1_hello_15 (by decide) (fun c15 => ?_) (fun c15 => ?_)
      · refine lv_aload_n hx hb dX1_hello_20 rfl (lv_at hl 0 rfl) ?_
        refine va_get (D := (dC, dI)) (ci := 1) (v := .ref a1) (C := RX1) (T := TX1) (N := 8) hx hb hts iwsX1_hello hown hK hP 0 rfl rfl 2 (by decide) (hts (.fieldLink RX1 7 "BranchTimesModel" "helloAt" "[I") (by decide +kernel)) (fun _ h9 => h9) rfl dX1_hello_21 ?_
        refine lv_iload_n hx hb dX1_hello_24 rfl (lv_at hl 1 rfl) ?_
        refine lv_aload_n hx hb dX1_hello_25 rfl (lv_at hl 0 rfl) ?_
        refine va_get (D := (dC, dI)) (ci := 1) (v := .int tm) (C := RX1) (T := TX1) (N := 8) hx hb hts iwsX1_hello hown hK hP 0 rfl rfl 1 (by decide) (hts (.fieldLink RX1 39 "BranchTimesModel" "time" "I") (by decide +kernel)) (fun _ h9 => h9) rfl dX1_hello_26 ?_
        refine va_iast (D := (dC, dI)) hx hb hK hP hD hS 1 0 rfl rfl (mHe_in (me := me) (by simp [mHeB, c1, c7, c15])) dX1_hello_29 (fun H locs hP hD hS => ?_)
        have hP : va_P (dC, dI) vwCl (wM h a1 a2 a3 a4 a5 a6 cA me tm (upd hA n.toNatClampNeg tm) rA lT jA pT cF) H := hP
        have hD : va_D A (wM h a1 a2 a3 a4 a5 a6 cA me tm (upd hA n.toNatClampNeg tm) rA lT jA pT cF) := hD
        refine lv_iconst (v := 1) hx hb dX1_hello_30 (by decide) ?_
        have e2 : mHeA me tm hA n = upd hA n.toNatClampNeg tm := by simp [mHeB, mHeA, bI, c1, c7, c15]
        have hP9 : va_P (dC, dI) vwCl (wM h a1 a2 a3 a4 a5 a6 cA me tm (mHeA me tm hA n) rA lT jA pT cF) H := by rw [e2]; exact hP
        have er : (1 : Int32) = bI (!mHeB me n) := by simp [mHeB, mHeA, bI, c1, c7, c15]
        exact W.zret (v := (1 : Int32)) (ty := .boolean) hx hb hr rfl (fun t ht hW => ⟨⟨_, (), rfl, er, by dsimp only; rw [ht]; exact hP9⟩, by rw [hQ9]; exact hS.F ht⟩) hS.2.2 dX1_hello_31
      · refine lv_iconst (v := 0) hx hb dX1_hello_18 (by decide) ?_
        have e2 : mHeA me tm hA n = hA := by simp [mHeB, mHeA, bI, c1, c7, c15]
        have hP9 : va_P (dC, dI) vwCl (wM h a1 a2 a3 a4 a5 a6 cA me tm (mHeA me tm hA n) rA lT jA pT cF) s.heap := by rw [e2]; exact hP
        have er : (0 : Int32) = bI (!mHeB me n) := by simp [mHeB, mHeA, bI, c1, c7, c15]
        exact W.zret (v := (0 : Int32)) (ty := .boolean) hx hb hr rfl (fun t ht hW => ⟨⟨_, (), rfl, er, by dsimp only; rw [ht]; exact hP9⟩, by rw [hQ9]; exact hS.F ht⟩) hS.2.2 dX1_hello_19
theorem hd_X1_hello : yX1_hello.cls = RX1 ∧ yX1_hello.cls ≠ "java/lang/invoke/MethodHandle" ∧ yX1_hello.cls ≠ "java/lang/invoke/VarHandle" ∧ (parseMethodDescriptor yX1_hello.desc).map (fun d => d.parameters.length) = some 1 := by decide +kernel

theorem iwsX1_report : ∀ w ∈ u_ws RX1 TX1 8, w ∈ wsX1_report := fun _ h => List.mem_cons_of_mem _ (List.mem_append_right _ h)
set_option maxHeartbeats 4000000 in
set_option maxRecDepth 100000 in
theorem c_X1_report (l : Launch) (dC : Nat → ClassId) (dI : Nat → Nat → Nat) (h a1 a2 a3 a4 a5 a6 : Nat) (cA : ClassId) (me tm : Int32) (hA rA lT jA pT cF : Nat → Int32) (g : Int32) (sz : Nat) : Met l yX1_report wsX1_report ({ frames := 1, cells := 0, slots := 0, locals := 20 }) (PW [.ref h, .int g] dC dI cA (wM h a1 a2 a3 a4 a5 a6 cA me tm hA rA lT jA pT cF) sz) (QWi dC dI (bI (xG g)) (wM h a1 a2 a3 a4 a5 a6 cA me tm hA rA lT jA pT cF) (wM h a1 a2 a3 a4 a5 a6 cA me tm hA (mReA tm rA g) (mReT lT g) jA pT cF) sz) 0 0 (va_A (wM h a1 a2 a3 a4 a5 a6 cA me tm hA rA lT jA pT cF) sz) := by
  refine Met.ofW (cc := cX1_report) (maxL := 2) (ret := some .boolean) (by decide) rfl ?_
  intro p e s m args below meth c s₁ B hml hv
  obtain ⟨rfl, hsz, hP, hK, hD0⟩ := hv
  have hx := B.exec
  have hb := B.bytes
  have hr := B.returns
  have hts := atoms_spec (ws := wsX1_report) B.pre
  have hown : s.vm.findClass RX1 = some m.cls := findClass_of_methodNamed B.named
  have hlocks := B.notSynchronized
  have S : CallFix p m c cX1_report 2 s ([.ref h, .int g] : List Value).toArray wsX1_report RX1 := ⟨hx, hb, hml, hown, hts⟩
  subst hsz
  have hD := hD0.self (sz := s.heap.size)
  generalize hAe : va_A (wM h a1 a2 a3 a4 a5 a6 cA me tm hA rA lT jA pT cF) s.heap.size = A at hD ⊢
  have hAA : ∀ q : Nat, s.heap.size ≤ q → A q := fun q h => by rw [← hAe]; exact Or.inr h
  have hS : va_S A s.heap s.heap [] := va_S.rf
  have hQ9 := hAe
  have hl := lv_entry ([.ref h, .int g]) (n := 2) (Nat.le_of_ble_eq_true rfl)
  rw [lg_entry_eq]
  generalize (lg_sl ([.ref h, .int g]) ++ List.replicate (2 - (lg_sl ([.ref h, .int g])).length) Slot.unset).toArray = ls at hl ⊢
  have hl : lv_has ls 2 [(0, .ref h), (1, .int g)] := hl
  refine lv_iload_n hx hb dX1_report_0 rfl (lv_at hl 1 rfl) ?_
  refine rd_S (As := [.int g]) (rest := []) S (c_X1_isGroup l g) gX1_report_X1_isGroup rfl ⟨rfl, rfl⟩ hd_X1_isGroup ⟨Nat.le_of_ble_eq_true rfl, Nat.le_of_ble_eq_true rfl⟩ rfl hl.1 rfl (Nat.le_of_ble_eq_true rfl) dX1_report_1 ⟨Nat.le_of_ble_eq_true rfl, Nat.le_of_ble_eq_true rfl⟩ ?_
  refine lv_if_ne (tgt := 9) hx hb dX1_report_4 (by decide) (fun c4 => ?_) (fun c4 => ?_)
  · have b4 := bI_nz c4
    refine lv_aload_n hx hb dX1_report_9 rfl (lv_at hl 0 rfl) ?_
    refine va_get (D := (dC, dI)) (ci := 1) (v := .ref a2) (C := RX1) (T := TX1) (N := 8) hx hb hts iwsX1_report hown hK hP 0 rfl rfl 3 (by decide) (hts (.fieldLink RX1 13 "BranchTimesModel" "reportAt" "[I") (by decide +kernel)) (fun _ h9 => h9) rfl dX1_report_10 ?_
    refine lv_iload_n hx hb dX1_report_13 rfl (lv_at hl 1 rfl) ?_
    refine lv_aload_n hx hb dX1_report_14 rfl (lv_at hl 0 rfl) ?_
    refine va_get (D := (dC, dI)) (ci := 1) (v := .int tm) (C := RX1) (T := TX1) (N := 8) hx hb hts iwsX1_report hown hK hP 0 rfl rfl 1 (by decide) (hts (.fieldLink RX1 39 "BranchTimesModel" "time" "I") (by decide +kernel)) (fun _ h9 => h9) rfl dX1_report_15 ?_
    refine va_iast (D := (dC, dI)) hx hb hK hP hD hS 2 0 rfl rfl (G_in b4) dX1_report_18 (fun H locs hP hD hS => ?_)
    have hP : va_P (dC, dI) vwCl (wM h a1 a2 a3 a4 a5 a6 cA me tm hA (upd rA g.toNatClampNeg tm) lT jA pT cF) H := hP
    have hD : va_D A (wM h a1 a2 a3 a4 a5 a6 cA me tm hA (upd rA g.toNatClampNeg tm) lT jA pT cF) := hD
    refine lv_aload_n hx hb dX1_report_19 rfl (lv_at hl 0 rfl) ?_
    refine va_get (D := (dC, dI)) (ci := 1) (v := .ref a3) (C := RX1) (T := TX1) (N := 8) hx hb hts iwsX1_report hown hK hP 0 rfl rfl 4 (by decide) (hts (.fieldLink RX1 16 "BranchTimesModel" "leftTill" "[I") (by decide +kernel)) (fun _ h9 => h9) rfl dX1_report_20 ?_
    refine lv_iload_n hx hb dX1_report_23 rfl (lv_at hl 1 rfl) ?_
    refine lv_ldc (v := 1000000) hx hb hown (hts (.constant RX1 47 (1000000)) (by decide +kernel)) dX1_report_24 ?_
    refine va_iast (D := (dC, dI)) hx hb hK hP hD hS 3 0 rfl rfl (G_in b4) dX1_report_26 (fun H locs hP hD hS => ?_)
    have hP : va_P (dC, dI) vwCl (wM h a1 a2 a3 a4 a5 a6 cA me tm hA (upd rA g.toNatClampNeg tm) (upd lT g.toNatClampNeg ((1000000 : Int32))) jA pT cF) H := hP
    have hD : va_D A (wM h a1 a2 a3 a4 a5 a6 cA me tm hA (upd rA g.toNatClampNeg tm) (upd lT g.toNatClampNeg ((1000000 : Int32))) jA pT cF) := hD
    refine lv_iconst (v := 1) hx hb dX1_report_27 (by decide) ?_
    have e3 : mReA tm rA g = upd rA g.toNatClampNeg tm := by simp [mReA, mReT, bI, b4]
    have e4 : mReT lT g = upd lT g.toNatClampNeg ((1000000 : Int32)) := by simp [mReA, mReT, bI, b4]
    have hP9 : va_P (dC, dI) vwCl (wM h a1 a2 a3 a4 a5 a6 cA me tm hA (mReA tm rA g) (mReT lT g) jA pT cF) H := by rw [e3, e4]; exact hP
    have er : (1 : Int32) = bI (xG g) := by simp [mReA, mReT, bI, b4]
    exact W.zret (v := (1 : Int32)) (ty := .boolean) hx hb hr rfl (fun t ht hW => ⟨⟨_, (), rfl, er, by dsimp only; rw [ht]; exact hP9⟩, by rw [hQ9]; exact hS.F ht⟩) hS.2.2 dX1_report_28
  · have b4 := bI_z c4
    refine lv_iconst (v := 0) hx hb dX1_report_7 (by decide) ?_
    have e3 : mReA tm rA g = rA := by simp [mReA, mReT, bI, b4]
    have e4 : mReT lT g = lT := by simp [mReA, mReT, bI, b4]
    have hP9 : va_P (dC, dI) vwCl (wM h a1 a2 a3 a4 a5 a6 cA me tm hA (mReA tm rA g) (mReT lT g) jA pT cF) s.heap := by rw [e3, e4]; exact hP
    have er : (0 : Int32) = bI (xG g) := by simp [mReA, mReT, bI, b4]
    exact W.zret (v := (0 : Int32)) (ty := .boolean) hx hb hr rfl (fun t ht hW => ⟨⟨_, (), rfl, er, by dsimp only; rw [ht]; exact hP9⟩, by rw [hQ9]; exact hS.F ht⟩) hS.2.2 dX1_report_8
theorem hd_X1_report : yX1_report.cls = RX1 ∧ yX1_report.cls ≠ "java/lang/invoke/MethodHandle" ∧ yX1_report.cls ≠ "java/lang/invoke/VarHandle" ∧ (parseMethodDescriptor yX1_report.desc).map (fun d => d.parameters.length) = some 1 := by decide +kernel

theorem iwsX1_leave : ∀ w ∈ u_ws RX1 TX1 8, w ∈ wsX1_leave := fun _ h => List.mem_cons_of_mem _ (List.mem_append_right _ h)
set_option maxHeartbeats 4000000 in
set_option maxRecDepth 100000 in
theorem c_X1_leave (l : Launch) (dC : Nat → ClassId) (dI : Nat → Nat → Nat) (h a1 a2 a3 a4 a5 a6 : Nat) (cA : ClassId) (me tm : Int32) (hA rA lT jA pT cF : Nat → Int32) (g : Int32) (hme : ¬ ((1 : Int32) <<< (me &&& 31)) = 0) (sz : Nat) : Met l yX1_leave wsX1_leave ({ frames := 2, cells := 0, slots := 0, locals := 42 }) (PW [.ref h, .int g] dC dI cA (wM h a1 a2 a3 a4 a5 a6 cA me tm hA rA lT jA pT cF) sz) (QWi dC dI (bI (mLeB me tm hA rA lT g)) (wM h a1 a2 a3 a4 a5 a6 cA me tm hA rA lT jA pT cF) (wM h a1 a2 a3 a4 a5 a6 cA me tm hA rA (mLeT me tm hA rA lT g) jA pT cF) sz) 0 0 (va_A (wM h a1 a2 a3 a4 a5 a6 cA me tm hA rA lT jA pT cF) sz) := by
  refine Met.ofW (cc := cX1_leave) (maxL := 2) (ret := some .boolean) (by decide) rfl ?_
  intro p e s m args below meth c s₁ B hml hv
  obtain ⟨rfl, hsz, hP, hK, hD0⟩ := hv
  have hx := B.exec
  have hb := B.bytes
  have hr := B.returns
  have hts := atoms_spec (ws := wsX1_leave) B.pre
  have hown : s.vm.findClass RX1 = some m.cls := findClass_of_methodNamed B.named
  have hlocks := B.notSynchronized
  have S : CallFix p m c cX1_leave 2 s ([.ref h, .int g] : List Value).toArray wsX1_leave RX1 := ⟨hx, hb, hml, hown, hts⟩
  subst hsz
  have hD := hD0.self (sz := s.heap.size)
  generalize hAe : va_A (wM h a1 a2 a3 a4 a5 a6 cA me tm hA rA lT jA pT cF) s.heap.size = A at hD ⊢
  have hAA : ∀ q : Nat, s.heap.size ≤ q → A q := fun q h => by rw [← hAe]; exact Or.inr h
  have hS : va_S A s.heap s.heap [] := va_S.rf
  have hQ9 := hAe
  have hl := lv_entry ([.ref h, .int g]) (n := 2) (Nat.le_of_ble_eq_true rfl)
  rw [lg_entry_eq]
  generalize (lg_sl ([.ref h, .int g]) ++ List.replicate (2 - (lg_sl ([.ref h, .int g])).length) Slot.unset).toArray = ls at hl ⊢
  have hl : lv_has ls 2 [(0, .ref h), (1, .int g)] := hl
  refine lv_iload_n hx hb dX1_leave_0 rfl (lv_at hl 1 rfl) ?_
  refine rd_S (As := [.int g]) (rest := []) S (c_X1_isGroup l g) gX1_leave_X1_isGroup rfl ⟨rfl, rfl⟩ hd_X1_isGroup ⟨Nat.le_of_ble_eq_true rfl, Nat.le_of_ble_eq_true rfl⟩ rfl hl.1 rfl (Nat.le_of_ble_eq_true rfl) dX1_leave_1 ⟨Nat.le_of_ble_eq_true rfl, Nat.le_of_ble_eq_true rfl⟩ ?_
  refine lv_if_eq (tgt := 22) hx hb dX1_leave_4 (by decide) (fun c4 => ?_) (fun c4 => ?_)
  · have b4 := bI_z c4
    refine lv_iconst (v := 0) hx hb dX1_leave_22 (by decide) ?_
    have e4 : mLeT me tm hA rA lT g = lT := by simp [mLeB, mLeT, bI, b4]
    have hP9 : va_P (dC, dI) vwCl (wM h a1 a2 a3 a4 a5 a6 cA me tm hA rA (mLeT me tm hA rA lT g) jA pT cF) s.heap := by rw [e4]; exact hP
    have er : (0 : Int32) = bI (mLeB me tm hA rA lT g) := by simp [mLeB, mLeT, bI, b4]
    exact W.zret (v := (0 : Int32)) (ty := .boolean) hx hb hr rfl (fun t ht hW => ⟨⟨_, (), rfl, er, by dsimp only; rw [ht]; exact hP9⟩, by rw [hQ9]; exact hS.F ht⟩) hS.2.2 dX1_leave_23
  · have b4 := bI_nz c4
    refine lv_aload_n hx hb dX1_leave_7 rfl (lv_at hl 0 rfl) ?_
    refine lv_iload_n hx hb dX1_leave_8 rfl (lv_at hl 1 rfl) ?_
    refine rd_V (As := [.int g]) (rest := []) (ci := 1) (qc := (RX1, TX1, 8)) S (c_X1_memberTill l dC dI h a1 a2 a3 a4 a5 a6 cA me tm hA rA lT jA pT cF g b4) gX1_leave_X1_memberTill rfl ⟨rfl, rfl⟩ hd_X1_memberTill ⟨Nat.le_of_ble_eq_true rfl, Nat.le_of_ble_eq_true rfl⟩ hK hP rfl rfl rfl hl.1 rfl (Nat.le_of_ble_eq_true rfl) dX1_leave_9 ⟨Nat.le_of_ble_eq_true rfl, Nat.le_of_ble_eq_true rfl⟩ ?_
    refine lv_if_eq (tgt := 22) hx hb dX1_leave_12 (by decide) (fun c12 => ?_) (fun c12 => ?_)
    · refine lv_iconst (v := 0) hx hb dX1_leave_22 (by decide) ?_
      have e4 : mLeT me tm hA rA lT g = lT := by simp [mLeB, mLeT, bI, b4, c12]
      have hP9 : va_P (dC, dI) vwCl (wM h a1 a2 a3 a4 a5 a6 cA me tm hA rA (mLeT me tm hA rA lT g) jA pT cF) s.heap := by rw [e4]; exact hP
      have er : (0 : Int32) = bI (mLeB me tm hA rA lT g) := by simp [mLeB, mLeT, bI, b4, c12]
      exact W.zret (v := (0 : Int32)) (ty := .boolean) hx hb hr rfl (fun t ht hW => ⟨⟨_, (), rfl, er, by dsimp only; rw [ht]; exact hP9⟩, by rw [hQ9]; exact hS.F ht⟩) hS.2.2 dX1_leave_23
    · refine lv_aload_n hx hb dX1_leave_15 rfl (lv_at hl 0 rfl) ?_
      refine rd_V (As := []) (rest := []) (ci := 1) (qc := (RX1, TX1, 8)) S (c_X1_isAsking l dC dI h a1 a2 a3 a4 a5 a6 cA me tm hA rA lT jA pT cF hme) gX1_leave_X1_isAsking rfl ⟨rfl, rfl⟩ hd_X1_isAsking ⟨Nat.le_of_ble_eq_true rfl, Nat.le_of_ble_eq_true rfl⟩ hK hP rfl rfl rfl hl.1 rfl (Nat.le_of_ble_eq_true rfl) dX1_leave_16 ⟨Nat.le_of_ble_eq_true rfl, Nat.le_of_ble_eq_true rfl⟩ ?_
      refine lv_if_ne (tgt := 24) hx hb dX1_leave_19 (by decide) (fun c19 => ?_) (fun c19 => ?_)
      · have b19 := bI_nz c19
        refine lv_aload_n hx hb dX1_leave_24 rfl (lv_at hl 0 rfl) ?_
        refine va_get (D := (dC, dI)) (ci := 1) (v := .ref a3) (C := RX1) (T := TX1) (N := 8) hx hb hts iwsX1_leave hown hK hP 0 rfl rfl 4 (by decide) (hts (.fieldLink RX1 16 "BranchTimesModel" "leftTill" "[I") (by decide +kernel)) (fun _ h9 => h9) rfl dX1_leave_25 ?_
        refine lv_iload_n hx hb dX1_leave_28 rfl (lv_at hl 1 rfl) ?_
        refine lv_aload_n hx hb dX1_leave_29 rfl (lv_at hl 0 rfl) ?_
        refine va_get (D := (dC, dI)) (ci := 1) (v := .int tm) (C := RX1) (T := TX1) (N := 8) hx hb hts iwsX1_leave hown hK hP 0 rfl rfl 1 (by decide) (hts (.fieldLink RX1 39 "BranchTimesModel" "time" "I") (by decide +kernel)) (fun _ h9 => h9) rfl dX1_leave_30 ?_
        refine lv_iconst (v := 4) hx hb dX1_leave_33 (by decide) ?_
        refine lv_iadd hx hb dX1_leave_34 ?_
        refine lv_aload_n hx hb dX1_leave_35 rfl (lv_at hl 0 rfl) ?_
        refine va_get (D := (dC, dI)) (ci := 1) (v := .ref a3) (C := RX1) (T := TX1) (N := 8) hx hb hts iwsX1_leave hown hK hP 0 rfl rfl 4 (by decide) (hts (.fieldLink RX1 16 "BranchTimesModel" "leftTill" "[I") (by decide +kernel)) (fun _ h9 => h9) rfl dX1_leave_36 ?_
        refine lv_iload_n hx hb dX1_leave_39 rfl (lv_at hl 1 rfl) ?_
        refine va_iald (D := (dC, dI)) hx hb hK hP 3 0 rfl rfl (G_in b4) dX1_leave_40 ?_
        refine lv_icmp_ge (tgt := 53) hx hb dX1_leave_41 (by decide) (fun c41 => ?_) (fun c41 => ?_)
        · refine lv_aload_n hx hb dX1_leave_53 rfl (lv_at hl 0 rfl) ?_
          refine va_get (D := (dC, dI)) (ci := 1) (v := .ref a3) (C := RX1) (T := TX1) (N := 8) hx hb hts iwsX1_leave hown hK hP 0 rfl rfl 4 (by decide) (hts (.fieldLink RX1 16 "BranchTimesModel" "leftTill" "[I") (by decide +kernel)) (fun _ h9 => h9) rfl dX1_leave_54 ?_
          refine lv_iload_n hx hb dX1_leave_57 rfl (lv_at hl 1 rfl) ?_
          refine va_iald (D := (dC, dI)) hx hb hK hP 3 0 rfl rfl (G_in b4) dX1_leave_58 ?_
          refine lv_top (x' := mMin (tm + 4) (lT g.toNatClampNeg)) (by simp [mMin, c41]) ?_
          refine va_iast (D := (dC, dI)) hx hb hK hP hD hS 3 0 rfl rfl (G_in b4) dX1_leave_59 (fun H locs hP hD hS => ?_)
          have hP : va_P (dC, dI) vwCl (wM h a1 a2 a3 a4 a5 a6 cA me tm hA rA (upd lT g.toNatClampNeg (mMin (tm + 4) (lT g.toNatClampNeg))) jA pT cF) H := hP
          have hD : va_D A (wM h a1 a2 a3 a4 a5 a6 cA me tm hA rA (upd lT g.toNatClampNeg (mMin (tm + 4) (lT g.toNatClampNeg))) jA pT cF) := hD
          refine lv_iconst (v := 1) hx hb dX1_leave_60 (by decide) ?_
          have e4 : mLeT me tm hA rA lT g = upd lT g.toNatClampNeg (mMin (tm + 4) (lT g.toNatClampNeg)) := by simp [mLeB, mLeT, bI, b4, c12, b19, c41]
          have hP9 : va_P (dC, dI) vwCl (wM h a1 a2 a3 a4 a5 a6 cA me tm hA rA (mLeT me tm hA rA lT g) jA pT cF) H := by rw [e4]; exact hP
          have er : (1 : Int32) = bI (mLeB me tm hA rA lT g) := by simp [mLeB, mLeT, bI, b4, c12, b19, c41]
          exact W.zret (v := (1 : Int32)) (ty := .boolean) hx hb hr rfl (fun t ht hW => ⟨⟨_, (), rfl, er, by dsimp only; rw [ht]; exact hP9⟩, by rw [hQ9]; exact hS.F ht⟩) hS.2.2 dX1_leave_61
        · refine lv_aload_n hx hb dX1_leave_44 rfl (lv_at hl 0 rfl) ?_
          refine va_get (D := (dC, dI)) (ci := 1) (v := .int tm) (C := RX1) (T := TX1) (N := 8) hx hb hts iwsX1_leave hown hK hP 0 rfl rfl 1 (by decide) (hts (.fieldLink RX1 39 "BranchTimesModel" "time" "I") (by decide +kernel)) (fun _ h9 => h9) rfl dX1_leave_45 ?_
          refine lv_iconst (v := 4) hx hb dX1_leave_48 (by decide) ?_
          refine lv_iadd hx hb dX1_leave_49 ?_
          refine lv_goto (tgt := 59) hx hb dX1_leave_50 (by decide) ?_
          refine lv_top (x' := mMin (tm + 4) (lT g.toNatClampNeg)) (by simp [mMin, c41]) ?_
          refine va_iast (D := (dC, dI)) hx hb hK hP hD hS 3 0 rfl rfl (G_in b4) dX1_leave_59 (fun H locs hP hD hS => ?_)
          have hP : va_P (dC, dI) vwCl (wM h a1 a2 a3 a4 a5 a6 cA me tm hA rA (upd lT g.toNatClampNeg (mMin (tm + 4) (lT g.toNatClampNeg))) jA pT cF) H := hP
          have hD : va_D A (wM h a1 a2 a3 a4 a5 a6 cA me tm hA rA (upd lT g.toNatClampNeg (mMin (tm + 4) (lT g.toNatClampNeg))) jA pT cF) := hD
          refine lv_iconst (v := 1) hx hb dX1_leave_60 (by decide) ?_
          have e4 : mLeT me tm hA rA lT g = upd lT g.toNatClampNeg (mMin (tm + 4) (lT g.toNatClampNeg)) := by simp [mLeB, mLeT, bI, b4, c12, b19, c41]
          have hP9 : va_P (dC, dI) vwCl (wM h a1 a2 a3 a4 a5 a6 cA me tm hA rA (mLeT me tm hA rA lT g) jA pT cF) H := by rw [e4]; exact hP
          have er : (1 : Int32) = bI (mLeB me tm hA rA lT g) := by simp [mLeB, mLeT, bI, b4, c12, b19, c41]
          exact W.zret (v := (1 : Int32)) (ty := .boolean) hx hb hr rfl (fun t ht hW => ⟨⟨_, (), rfl, er, by dsimp only; rw [ht]; exact hP9⟩, by rw [hQ9]; exact hS.F ht⟩) hS.2.2 dX1_leave_61
      · have b19 := bI_z c19
        refine lv_iconst (v := 0) hx hb dX1_leave_22 (by decide) ?_
        have e4 : mLeT me tm hA rA lT g = lT := by simp [mLeB, mLeT, bI, b4, c12, b19]
        have hP9 : va_P (dC, dI) vwCl (wM h a1 a2 a3 a4 a5 a6 cA me tm hA rA (mLeT me tm hA rA lT g) jA pT cF) s.heap := by rw [e4]; exact hP
        have er : (0 : Int32) = bI (mLeB me tm hA rA lT g) := by simp [mLeB, mLeT, bI, b4, c12, b19]
        exact W.zret (v := (0 : Int32)) (ty := .boolean) hx hb hr rfl (fun t ht hW => ⟨⟨_, (), rfl, er, by dsimp only; rw [ht]; exact hP9⟩, by rw [hQ9]; exact hS.F ht⟩) hS.2.2 dX1_leave_23
theorem hd_X1_leave : yX1_leave.cls = RX1 ∧ yX1_leave.cls ≠ "java/lang/invoke/MethodHandle" ∧ yX1_leave.cls ≠ "java/lang/invoke/VarHandle" ∧ (parseMethodDescriptor yX1_leave.desc).map (fun d => d.parameters.length) = some 1 := by decide +kernel

theorem iwsX1_prune : ∀ w ∈ u_ws RX1 TX1 8, w ∈ wsX1_prune := fun _ h => List.mem_cons_of_mem _ (List.mem_append_right _ h)
set_option maxHeartbeats 4000000 in
set_option maxRecDepth 100000 in
theorem c_X1_prune (l : Launch) (dC : Nat → ClassId) (dI : Nat → Nat → Nat) (h a1 a2 a3 a4 a5 a6 : Nat) (cA : ClassId) (me tm : Int32) (hA rA lT jA pT cF : Nat → Int32) (g q : Int32) (sz : Nat) : Met l yX1_prune wsX1_prune ({ frames := 2, cells := 0, slots := 0, locals := 44 }) (PW [.ref h, .int g, .int q] dC dI cA (wM h a1 a2 a3 a4 a5 a6 cA me tm hA rA lT jA pT cF) sz) (QWi dC dI (bI (mPrB tm jA pT g q)) (wM h a1 a2 a3 a4 a5 a6 cA me tm hA rA lT jA pT cF) (wM h a1 a2 a3 a4 a5 a6 cA me tm hA rA lT jA (mPrP tm hA jA pT g q) cF) sz) 0 0 (va_A (wM h a1 a2 a3 a4 a5 a6 cA me tm hA rA lT jA pT cF) sz) := by
  refine Met.ofW (cc := cX1_prune) (maxL := 5) (ret := some .boolean) (by decide) rfl ?_
  intro p e s m args below meth c s₁ B hml hv
  obtain ⟨rfl, hsz, hP, hK, hD0⟩ := hv
  have hx := B.exec
  have hb := B.bytes
  have hr := B.returns
  have hts := atoms_spec (ws := wsX1_prune) B.pre
  have hown : s.vm.findClass RX1 = some m.cls := findClass_of_methodNamed B.named
  have hlocks := B.notSynchronized
  have S : CallFix p m c cX1_prune 5 s ([.ref h, .int g, .int q] : List Value).toArray wsX1_prune RX1 := ⟨hx, hb, hml, hown, hts⟩
  subst hsz
  have hD := hD0.self (sz := s.heap.size)
  generalize hAe : va_A (wM h a1 a2 a3 a4 a5 a6 cA me tm hA rA lT jA pT cF) s.heap.size = A at hD ⊢
  have hAA : ∀ q : Nat, s.heap.size ≤ q → A q := fun q h => by rw [← hAe]; exact Or.inr h
  have hS : va_S A s.heap s.heap [] := va_S.rf
  have hQ9 := hAe
  have hl := lv_entry ([.ref h, .int g, .int q]) (n := 5) (Nat.le_of_ble_eq_true rfl)
  rw [lg_entry_eq]
  generalize (lg_sl ([.ref h, .int g, .int q]) ++ List.replicate (5 - (lg_sl ([.ref h, .int g, .int q])).length) Slot.unset).toArray = ls at hl ⊢
  have hl : lv_has ls 5 [(0, .ref h), (1, .int g), (2, .int q)] := hl
  refine lv_iload_n hx hb dX1_prune_0 rfl (lv_at hl 1 rfl) ?_
  refine lv_iload_n hx hb dX1_prune_1 rfl (lv_at hl 2 rfl) ?_
  refine rd_S (As := [.int g, .int q]) (rest := []) S (c_X1_isBranch l g q) gX1_prune_X1_isBranch rfl ⟨rfl, rfl⟩ hd_X1_isBranch ⟨Nat.le_of_ble_eq_true rfl, Nat.le_of_ble_eq_true rfl⟩ rfl hl.1 rfl (Nat.le_of_ble_eq_true rfl) dX1_prune_2 ⟨Nat.le_of_ble_eq_true rfl, Nat.le_of_ble_eq_true rfl⟩ ?_
  refine lv_if_eq (tgt := 17) hx hb dX1_prune_5 (by decide) (fun c5 => ?_) (fun c5 => ?_)
  · have b5 := bI_z c5
    refine lv_iconst (v := 0) hx hb dX1_prune_17 (by decide) ?_
    have e6 : mPrP tm hA jA pT g q = pT := by simp [mPrB, mPrP, bI, b5]
    have hP9 : va_P (dC, dI) vwCl (wM h a1 a2 a3 a4 a5 a6 cA me tm hA rA lT jA (mPrP tm hA jA pT g q) cF) s.heap := by rw [e6]; exact hP
    have er : (0 : Int32) = bI (mPrB tm jA pT g q) := by simp [mPrB, mPrP, bI, b5]
    exact W.zret (v := (0 : Int32)) (ty := .boolean) hx hb hr rfl (fun t ht hW => ⟨⟨_, (), rfl, er, by dsimp only; rw [ht]; exact hP9⟩, by rw [hQ9]; exact hS.F ht⟩) hS.2.2 dX1_prune_18
  · have b5 := bI_nz c5
    refine lv_aload_n hx hb dX1_prune_8 rfl (lv_at hl 0 rfl) ?_
    refine lv_iload_n hx hb dX1_prune_9 rfl (lv_at hl 1 rfl) ?_
    refine lv_iload_n hx hb dX1_prune_10 rfl (lv_at hl 2 rfl) ?_
    refine rd_V (As := [.int g, .int q]) (rest := []) (ci := 1) (qc := (RX1, TX1, 8)) S (c_X1_till l dC dI h a1 a2 a3 a4 a5 a6 cA me tm hA rA lT jA pT cF g q b5) gX1_prune_X1_till rfl ⟨rfl, rfl⟩ hd_X1_till ⟨Nat.le_of_ble_eq_true rfl, Nat.le_of_ble_eq_true rfl⟩ hK hP rfl rfl rfl hl.1 rfl (Nat.le_of_ble_eq_true rfl) dX1_prune_11 ⟨Nat.le_of_ble_eq_true rfl, Nat.le_of_ble_eq_true rfl⟩ ?_
    refine lv_if_ne (tgt := 19) hx hb dX1_prune_14 (by decide) (fun c14 => ?_) (fun c14 => ?_)
    · refine lv_bipush (v := 17) hx hb dX1_prune_19 (by decide) ?_
      refine lv_iload_n hx hb dX1_prune_21 rfl (lv_at hl 1 rfl) ?_
      refine lv_imul hx hb dX1_prune_22 ?_
      refine lv_iload_n hx hb dX1_prune_23 rfl (lv_at hl 2 rfl) ?_
      refine lv_iadd hx hb dX1_prune_24 ?_
      refine lv_iconst (v := 1) hx hb dX1_prune_25 (by decide) ?_
      refine lv_iadd hx hb dX1_prune_26 ?_
      refine lv_top (x' := mPl g q) (rfl) ?_
      refine lv_istore_n (lv' := [(3, .int (mPl g q)), (0, .ref h), (1, .int g), (2, .int q)]) hx hb dX1_prune_27 rfl hl (by decide) rfl (fun ls hl => ?_)
      refine lv_aload_n hx hb dX1_prune_28 rfl (lv_at hl 1 rfl) ?_
      refine rd_V (As := []) (rest := []) (ci := 1) (qc := (RX1, TX1, 8)) S (c_X1_isCrowded l dC dI h a1 a2 a3 a4 a5 a6 cA me tm hA rA lT jA pT cF) gX1_prune_X1_isCrowded rfl ⟨rfl, rfl⟩ hd_X1_isCrowded ⟨Nat.le_of_ble_eq_true rfl, Nat.le_of_ble_eq_true rfl⟩ hK hP rfl rfl rfl hl.1 rfl (Nat.le_of_ble_eq_true rfl) dX1_prune_29 ⟨Nat.le_of_ble_eq_true rfl, Nat.le_of_ble_eq_true rfl⟩ ?_
      refine lv_if_eq (tgt := 44) hx hb dX1_prune_32 (by decide) (fun c32 => ?_) (fun c32 => ?_)
      · have b32 := bI_z c32
        refine lv_aload_n hx hb dX1_prune_44 rfl (lv_at hl 1 rfl) ?_
        refine va_get (D := (dC, dI)) (ci := 1) (v := .int tm) (C := RX1) (T := TX1) (N := 8) hx hb hts iwsX1_prune hown hK hP 0 rfl rfl 1 (by decide) (hts (.fieldLink RX1 39 "BranchTimesModel" "time" "I") (by decide +kernel)) (fun _ h9 => h9) rfl dX1_prune_45 ?_
        refine lv_top (x' := mEff tm (mNb tm hA)) (by simp [mEff, b32]) ?_
        refine lv_istore (lv' := [(4, .int (mEff tm (mNb tm hA))), (3, .int (mPl g q)), (0, .ref h), (1, .int g), (2, .int q)]) hx hb dX1_prune_48 hl (by decide) rfl (fun ls hl => ?_)
        refine lv_aload_n hx hb dX1_prune_50 rfl (lv_at hl 2 rfl) ?_
        refine va_get (D := (dC, dI)) (ci := 1) (v := .ref a5) (C := RX1) (T := TX1) (N := 8) hx hb hts iwsX1_prune hown hK hP 0 rfl rfl 6 (by decide) (hts (.fieldLink RX1 22 "BranchTimesModel" "prunedTill" "[I") (by decide +kernel)) (fun _ h9 => h9) rfl dX1_prune_51 ?_
        refine lv_iload_n hx hb dX1_prune_54 rfl (lv_at hl 1 rfl) ?_
        refine lv_iload hx hb dX1_prune_55 (lv_at hl 0 rfl) ?_
        refine lv_aload_n hx hb dX1_prune_57 rfl (lv_at hl 2 rfl) ?_
        refine va_get (D := (dC, dI)) (ci := 1) (v := .ref a5) (C := RX1) (T := TX1) (N := 8) hx hb hts iwsX1_prune hown hK hP 0 rfl rfl 6 (by decide) (hts (.fieldLink RX1 22 "BranchTimesModel" "prunedTill" "[I") (by decide +kernel)) (fun _ h9 => h9) rfl dX1_prune_58 ?_
        refine lv_iload_n hx hb dX1_prune_61 rfl (lv_at hl 1 rfl) ?_
        refine va_iald (D := (dC, dI)) hx hb hK hP 5 0 rfl rfl (mPl_in b5) dX1_prune_62 ?_
        refine lv_icmp_ge (tgt := 71) hx hb dX1_prune_63 (by decide) (fun c63 => ?_) (fun c63 => ?_)
        · refine lv_aload_n hx hb dX1_prune_71 rfl (lv_at hl 2 rfl) ?_
          refine va_get (D := (dC, dI)) (ci := 1) (v := .ref a5) (C := RX1) (T := TX1) (N := 8) hx hb hts iwsX1_prune hown hK hP 0 rfl rfl 6 (by decide) (hts (.fieldLink RX1 22 "BranchTimesModel" "prunedTill" "[I") (by decide +kernel)) (fun _ h9 => h9) rfl dX1_prune_72 ?_
          refine lv_iload_n hx hb dX1_prune_75 rfl (lv_at hl 1 rfl) ?_
          refine va_iald (D := (dC, dI)) hx hb hK hP 5 0 rfl rfl (mPl_in b5) dX1_prune_76 ?_
          refine lv_top (x' := mMin (mEff tm (mNb tm hA)) (pT (mPl g q).toNatClampNeg)) (by simp [mMin, c63]) ?_
          refine va_iast (D := (dC, dI)) hx hb hK hP hD hS 5 0 rfl rfl (mPl_in b5) dX1_prune_77 (fun H locs hP hD hS => ?_)
          have hP : va_P (dC, dI) vwCl (wM h a1 a2 a3 a4 a5 a6 cA me tm hA rA lT jA (upd pT (mPl g q).toNatClampNeg (mMin (mEff tm (mNb tm hA)) (pT (mPl g q).toNatClampNeg))) cF) H := hP
          have hD : va_D A (wM h a1 a2 a3 a4 a5 a6 cA me tm hA rA lT jA (upd pT (mPl g q).toNatClampNeg (mMin (mEff tm (mNb tm hA)) (pT (mPl g q).toNatClampNeg))) cF) := hD
          refine lv_iconst (v := 1) hx hb dX1_prune_78 (by decide) ?_
          have e6 : mPrP tm hA jA pT g q = upd pT (mPl g q).toNatClampNeg (mMin (mEff tm (mNb tm hA)) (pT (mPl g q).toNatClampNeg)) := by simp [mPrB, mPrP, bI, b5, c14, b32, c63]
          have hP9 : va_P (dC, dI) vwCl (wM h a1 a2 a3 a4 a5 a6 cA me tm hA rA lT jA (mPrP tm hA jA pT g q) cF) H := by rw [e6]; exact hP
          have er : (1 : Int32) = bI (mPrB tm jA pT g q) := by simp [mPrB, mPrP, bI, b5, c14, b32, c63]
          exact W.zret (v := (1 : Int32)) (ty := .boolean) hx hb hr rfl (fun t ht hW => ⟨⟨_, (), rfl, er, by dsimp only; rw [ht]; exact hP9⟩, by rw [hQ9]; exact hS.F ht⟩) hS.2.2 dX1_prune_79
        · refine lv_iload hx hb dX1_prune_66 (lv_at hl 0 rfl) ?_
          refine lv_goto (tgt := 77) hx hb dX1_prune_68 (by decide) ?_
          refine lv_top (x' := mMin (mEff tm (mNb tm hA)) (pT (mPl g q).toNatClampNeg)) (by simp [mMin, c63]) ?_
          refine va_iast (D := (dC, dI)) hx hb hK hP hD hS 5 0 rfl rfl (mPl_in b5) dX1_prune_77 (fun H locs hP hD hS => ?_)
          have hP : va_P (dC, dI) vwCl (wM h a1 a2 a3 a4 a5 a6 cA me tm hA rA lT jA (upd pT (mPl g q).toNatClampNeg (mMin (mEff tm (mNb tm hA)) (pT (mPl g q).toNatClampNeg))) cF) H := hP
          have hD : va_D A (wM h a1 a2 a3 a4 a5 a6 cA me tm hA rA lT jA (upd pT (mPl g q).toNatClampNeg (mMin (mEff tm (mNb tm hA)) (pT (mPl g q).toNatClampNeg))) cF) := hD
          refine lv_iconst (v := 1) hx hb dX1_prune_78 (by decide) ?_
          have e6 : mPrP tm hA jA pT g q = upd pT (mPl g q).toNatClampNeg (mMin (mEff tm (mNb tm hA)) (pT (mPl g q).toNatClampNeg)) := by simp [mPrB, mPrP, bI, b5, c14, b32, c63]
          have hP9 : va_P (dC, dI) vwCl (wM h a1 a2 a3 a4 a5 a6 cA me tm hA rA lT jA (mPrP tm hA jA pT g q) cF) H := by rw [e6]; exact hP
          have er : (1 : Int32) = bI (mPrB tm jA pT g q) := by simp [mPrB, mPrP, bI, b5, c14, b32, c63]
          exact W.zret (v := (1 : Int32)) (ty := .boolean) hx hb hr rfl (fun t ht hW => ⟨⟨_, (), rfl, er, by dsimp only; rw [ht]; exact hP9⟩, by rw [hQ9]; exact hS.F ht⟩) hS.2.2 dX1_prune_79
      · have b32 := bI_nz c32
        refine lv_aload_n hx hb dX1_prune_35 rfl (lv_at hl 1 rfl) ?_
        refine va_get (D := (dC, dI)) (ci := 1) (v := .int tm) (C := RX1) (T := TX1) (N := 8) hx hb hts iwsX1_prune hown hK hP 0 rfl rfl 1 (by decide) (hts (.fieldLink RX1 39 "BranchTimesModel" "time" "I") (by decide +kernel)) (fun _ h9 => h9) rfl dX1_prune_36 ?_
        refine lv_iconst (v := 3) hx hb dX1_prune_39 (by decide) ?_
        refine lv_iadd hx hb dX1_prune_40 ?_
        refine lv_goto (tgt := 48) hx hb dX1_prune_41 (by decide) ?_
        refine lv_top (x' := mEff tm (mNb tm hA)) (by simp [mEff, b32]) ?_
        refine lv_istore (lv' := [(4, .int (mEff tm (mNb tm hA))), (3, .int (mPl g q)), (0, .ref h), (1, .int g), (2, .int q)]) hx hb dX1_prune_48 hl (by decide) rfl (fun ls hl => ?_)
        refine lv_aload_n hx hb dX1_prune_50 rfl (lv_at hl 2 rfl) ?_
        refine va_get (D := (dC, dI)) (ci := 1) (v := .ref a5) (C := RX1) (T := TX1) (N := 8) hx hb hts iwsX1_prune hown hK hP 0 rfl rfl 6 (by decide) (hts (.fieldLink RX1 22 "BranchTimesModel" "prunedTill" "[I") (by decide +kernel)) (fun _ h9 => h9) rfl dX1_prune_51 ?_
        refine lv_iload_n hx hb dX1_prune_54 rfl (lv_at hl 1 rfl) ?_
        refine lv_iload hx hb dX1_prune_55 (lv_at hl 0 rfl) ?_
        refine lv_aload_n hx hb dX1_prune_57 rfl (lv_at hl 2 rfl) ?_
        refine va_get (D := (dC, dI)) (ci := 1) (v := .ref a5) (C := RX1) (T := TX1) (N := 8) hx hb hts iwsX1_prune hown hK hP 0 rfl rfl 6 (by decide) (hts (.fieldLink RX1 22 "BranchTimesModel" "prunedTill" "[I") (by decide +kernel)) (fun _ h9 => h9) rfl dX1_prune_58 ?_
        refine lv_iload_n hx hb dX1_prune_61 rfl (lv_at hl 1 rfl) ?_
        refine va_iald (D := (dC, dI)) hx hb hK hP 5 0 rfl rfl (mPl_in b5) dX1_prune_62 ?_
        refine lv_icmp_ge (tgt := 71) hx hb dX1_prune_63 (by decide) (fun c63 => ?_) (fun c63 => ?_)
        · refine lv_aload_n hx hb dX1_prune_71 rfl (lv_at hl 2 rfl) ?_
          refine va_get (D := (dC, dI)) (ci := 1) (v := .ref a5) (C := RX1) (T := TX1) (N := 8) hx hb hts iwsX1_prune hown hK hP 0 rfl rfl 6 (by decide) (hts (.fieldLink RX1 22 "BranchTimesModel" "prunedTill" "[I") (by decide +kernel)) (fun _ h9 => h9) rfl dX1_prune_72 ?_
          refine lv_iload_n hx hb dX1_prune_75 rfl (lv_at hl 1 rfl) ?_
          refine va_iald (D := (dC, dI)) hx hb hK hP 5 0 rfl rfl (mPl_in b5) dX1_prune_76 ?_
          refine lv_top (x' := mMin (mEff tm (mNb tm hA)) (pT (mPl g q).toNatClampNeg)) (by simp [mMin, c63]) ?_
          refine va_iast (D := (dC, dI)) hx hb hK hP hD hS 5 0 rfl rfl (mPl_in b5) dX1_prune_77 (fun H locs hP hD hS => ?_)
          have hP : va_P (dC, dI) vwCl (wM h a1 a2 a3 a4 a5 a6 cA me tm hA rA lT jA (upd pT (mPl g q).toNatClampNeg (mMin (mEff tm (mNb tm hA)) (pT (mPl g q).toNatClampNeg))) cF) H := hP
          have hD : va_D A (wM h a1 a2 a3 a4 a5 a6 cA me tm hA rA lT jA (upd pT (mPl g q).toNatClampNeg (mMin (mEff tm (mNb tm hA)) (pT (mPl g q).toNatClampNeg))) cF) := hD
          refine lv_iconst (v := 1) hx hb dX1_prune_78 (by decide) ?_
          have e6 : mPrP tm hA jA pT g q = upd pT (mPl g q).toNatClampNeg (mMin (mEff tm (mNb tm hA)) (pT (mPl g q).toNatClampNeg)) := by simp [mPrB, mPrP, bI, b5, c14, b32, c63]
          have hP9 : va_P (dC, dI) vwCl (wM h a1 a2 a3 a4 a5 a6 cA me tm hA rA lT jA (mPrP tm hA jA pT g q) cF) H := by rw [e6]; exact hP
          have er : (1 : Int32) = bI (mPrB tm jA pT g q) := by simp [mPrB, mPrP, bI, b5, c14, b32, c63]
          exact W.zret (v := (1 : Int32)) (ty := .boolean) hx hb hr rfl (fun t ht hW => ⟨⟨_, (), rfl, er, by dsimp only; rw [ht]; exact hP9⟩, by rw [hQ9]; exact hS.F ht⟩) hS.2.2 dX1_prune_79
        · refine lv_iload hx hb dX1_prune_66 (lv_at hl 0 rfl) ?_
          refine lv_goto (tgt := 77) hx hb dX1_prune_68 (by decide) ?_
          refine lv_top (x' := mMin (mEff tm (mNb tm hA)) (pT (mPl g q).toNatClampNeg)) (by simp [mMin, c63]) ?_
          refine va_iast (D := (dC, dI)) hx hb hK hP hD hS 5 0 rfl rfl (mPl_in b5) dX1_prune_77 (fun H locs hP hD hS => ?_)
          have hP : va_P (dC, dI) vwCl (wM h a1 a2 a3 a4 a5 a6 cA me tm hA rA lT jA (upd pT (mPl g q).toNatClampNeg (mMin (mEff tm (mNb tm hA)) (pT (mPl g q).toNatClampNeg))) cF) H := hP
          have hD : va_D A (wM h a1 a2 a3 a4 a5 a6 cA me tm hA rA lT jA (upd pT (mPl g q).toNatClampNeg (mMin (mEff tm (mNb tm hA)) (pT (mPl g q).toNatClampNeg))) cF) := hD
          refine lv_iconst (v := 1) hx hb dX1_prune_78 (by decide) ?_
          have e6 : mPrP tm hA jA pT g q = upd pT (mPl g q).toNatClampNeg (mMin (mEff tm (mNb tm hA)) (pT (mPl g q).toNatClampNeg)) := by simp [mPrB, mPrP, bI, b5, c14, b32, c63]
          have hP9 : va_P (dC, dI) vwCl (wM h a1 a2 a3 a4 a5 a6 cA me tm hA rA lT jA (mPrP tm hA jA pT g q) cF) H := by rw [e6]; exact hP
          have er : (1 : Int32) = bI (mPrB tm jA pT g q) := by simp [mPrB, mPrP, bI, b5, c14, b32, c63]
          exact W.zret (v := (1 : Int32)) (ty := .boolean) hx hb hr rfl (fun t ht hW => ⟨⟨_, (), rfl, er, by dsimp only; rw [ht]; exact hP9⟩, by rw [hQ9]; exact hS.F ht⟩) hS.2.2 dX1_prune_79
    · refine lv_iconst (v := 0) hx hb dX1_prune_17 (by decide) ?_
      have e6 : mPrP tm hA jA pT g q = pT := by simp [mPrB, mPrP, bI, b5, c14]
      have hP9 : va_P (dC, dI) vwCl (wM h a1 a2 a3 a4 a5 a6 cA me tm hA rA lT jA (mPrP tm hA jA pT g q) cF) s.heap := by rw [e6]; exact hP
      have er : (0 : Int32) = bI (mPrB tm jA pT g q) := by simp [mPrB, mPrP, bI, b5, c14]
      exact W.zret (v := (0 : Int32)) (ty := .boolean) hx hb hr rfl (fun t ht hW => ⟨⟨_, (), rfl, er, by dsimp only; rw [ht]; exact hP9⟩, by rw [hQ9]; exact hS.F ht⟩) hS.2.2 dX1_prune_18
theorem hd_X1_prune : yX1_prune.cls = RX1 ∧ yX1_prune.cls ≠ "java/lang/invoke/MethodHandle" ∧ yX1_prune.cls ≠ "java/lang/invoke/VarHandle" ∧ (parseMethodDescriptor yX1_prune.desc).map (fun d => d.parameters.length) = some 2 := by decide +kernel

theorem iwsX1_join : ∀ w ∈ u_ws RX1 TX1 8, w ∈ wsX1_join := fun _ h => List.mem_cons_of_mem _ (List.mem_append_right _ h)
set_option maxHeartbeats 4000000 in
set_option maxRecDepth 100000 in
theorem lp_X1_join_68 {p : Program} {e : Env} {s : State} {m : MethodId} {args : Array Value} {below : List Frame} {meth : Method} {c : Code} {cells slots : Nat} {Q : State → Prop} {A : Nat → Prop} {H0 : Heap} (l : Launch) (dC : Nat → ClassId) (dI : Nat → Nat → Nat) (h a1 a2 a3 a4 a5 a6 : Nat) (cA : ClassId) (me tm : Int32) (hA rA lT jA pT cF : Nat → Int32) (g q bits : Int32) (was : Bool) (hg : xG g = true) (S : CallFix p m c cX1_join 8 s args wsX1_join RX1) (hK : va_K (dC, dI) vwCl [(cA, .int)] s) (hAA : ∀ q, H0.size ≤ q → A q) (hcs : cells + 0 ≤ 0 ∧ slots + 0 ≤ 0) (k : ∀ (H : Heap) (locs : List Loc) (ls : Array Slot), va_P (dC, dI) vwCl (wM h a1 a2 a3 a4 a5 a6 cA me tm hA rA lT jA pT (mCutsI was cF g bits (mEff tm (mNb tm hA)) 16)) H → va_D A (wM h a1 a2 a3 a4 a5 a6 cA me tm hA rA lT jA pT (mCutsI was cF g bits (mEff tm (mNb tm hA)) 16)) → va_S A H0 H locs → lv_has ls 8 [(0, .ref h), (1, .int g), (2, .int q), (3, .int bits), (4, .int (bI was)), (5, .int (nI 16))] → W p l e ({ frames := 2, cells := 0, slots := 0, locals := 44 }) s m args below meth c H locs cells slots Q (F0 m 184 ls [])) : ∀ (n i : Nat), i + n = 16 → ∀ (H : Heap) (locs : List Loc) (ls : Array Slot), va_P (dC, dI) vwCl (wM h a1 a2 a3 a4 a5 a6 cA me tm hA rA lT jA pT (mCutsI was cF g bits (mEff tm (mNb tm hA)) i)) H → va_D A (wM h a1 a2 a3 a4 a5 a6 cA me tm hA rA lT jA pT (mCutsI was cF g bits (mEff tm (mNb tm hA)) i)) → va_S A H0 H locs → lv_has ls 8 [(0, .ref h), (1, .int g), (2, .int q), (3, .int bits), (4, .int (bI was)), (5, .int (nI i))] → W p l e ({ frames := 2, cells := 0, slots := 0, locals := 44 }) s m args below meth c H locs cells slots Q (F0 m 68 ls []) := by
  obtain ⟨hx, hb, hml, hown, hts⟩ := id S
  intro n
  induction n with
  | zero =>
    intro i hi H locs ls hP hD hS hl
    obtain rfl : i = 16 := by omega
    refine lv_iload hx hb dX1_join_68 (lv_at hl 5 rfl) ?_
    refine lv_bipush (v := 16) hx hb dX1_join_70 (by decide) ?_
    refine lv_icmp_ge (tgt := 184) hx hb dX1_join_72 (by decide) (fun c72 => ?_) (fun c72 => ?_)
    · exact k _ _ ls hP hD hS (lv_sub hl [0, 1, 2, 3, 4, 5] rfl)
    · exact absurd c72 (by decide)
  | succ n ih =>
    intro i hi H locs ls hP hD hS hl
    have hlt : i < 16 := by omega
    have hcl : (nI i).toNatClampNeg = i := nI_clamp (by omega)
    refine lv_iload hx hb dX1_join_68 (lv_at hl 5 rfl) ?_
    refine lv_bipush (v := 16) hx hb dX1_join_70 (by decide) ?_
    refine lv_icmp_ge (tgt := 184) hx hb dX1_join_72 (by decide) (fun c72 => ?_) (fun c72 => ?_)
    · exact absurd c72 (nI_ge hlt (by decide))
    · refine lv_iload_n hx hb dX1_join_75 rfl (lv_at hl 3 rfl) ?_
      refine lv_iload hx hb dX1_join_76 (lv_at hl 5 rfl) ?_
      refine lv_ishr hx hb dX1_join_78 ?_
      refine lv_iconst (v := 1) hx hb dX1_join_79 (by decide) ?_
      refine lv_iand hx hb dX1_join_80 ?_
      refine lv_iconst (v := 1) hx hb dX1_join_81 (by decide) ?_
      refine lv_icmp_ne (tgt := 89) hx hb dX1_join_82 (by decide) (fun c82 => ?_) (fun c82 => ?_)
      · refine lv_iconst (v := 0) hx hb dX1_join_89 (by decide) ?_
        refine lv_istore (lv' := [(6, .int ((0 : Int32))), (0, .ref h), (1, .int g), (2, .int q), (3, .int bits), (4, .int (bI was)), (5, .int (nI i))]) hx hb dX1_join_90 hl (by decide) rfl (fun ls hl => ?_)
        refine lv_iload hx hb dX1_join_92 (lv_at hl 5 rfl) ?_
        refine lv_if_eq (tgt := 113) hx hb dX1_join_94 (by decide) (fun c94 => ?_) (fun c94 => ?_)
        · have b94 := bI_z c94
          refine lv_iconst (v := 1) hx hb dX1_join_113 (by decide) ?_
          refine lv_goto (tgt := 118) hx hb dX1_join_114 (by decide) ?_
          refine lv_istore (lv' := [(7, .int ((1 : Int32))), (6, .int ((0 : Int32))), (0, .ref h), (1, .int g), (2, .int q), (3, .int bits), (4, .int (bI was)), (5, .int (nI i))]) hx hb dX1_join_118 hl (by decide) rfl (fun ls hl => ?_)
          refine lv_iload hx hb dX1_join_120 (lv_at hl 1 rfl) ?_
          refine lv_if_ne (tgt := 141) hx hb dX1_join_122 (by decide) (fun c122 => ?_) (fun c122 => ?_)
          · exact absurd c122 (by decide)
          · clear c122
            refine lv_aload_n hx hb dX1_join_125 rfl (lv_at hl 2 rfl) ?_
            refine va_get (D := (dC, dI)) (ci := 1) (v := .ref a6) (C := RX1) (T := TX1) (N := 8) hx hb hts iwsX1_join hown hK hP 0 rfl rfl 7 (by decide) (hts (.fieldLink RX1 25 "BranchTimesModel" "cutFrom" "[I") (by decide +kernel)) (fun _ h9 => h9) rfl dX1_join_126 ?_
            refine lv_bipush (v := 16) hx hb dX1_join_129 (by decide) ?_
            refine lv_iload_n hx hb dX1_join_131 rfl (lv_at hl 3 rfl) ?_
            refine lv_imul hx hb dX1_join_132 ?_
            refine lv_iload hx hb dX1_join_133 (lv_at hl 7 rfl) ?_
            refine lv_iadd hx hb dX1_join_135 ?_
            refine lv_top (x' := mCp g (nI i)) (rfl) ?_
            refine lv_iconst (v := -1) hx hb dX1_join_136 (by decide) ?_
            refine va_iast (D := (dC, dI)) hx hb hK hP hD hS 6 0 rfl rfl (mCp_in hg (xSrc_nI hlt)) dX1_join_137 (fun H locs hP hD hS => ?_)
            have hP : va_P (dC, dI) vwCl (wM h a1 a2 a3 a4 a5 a6 cA me tm hA rA lT jA pT (upd (mCutsI was cF g bits (mEff tm (mNb tm hA)) i) (mCp g (nI i)).toNatClampNeg ((-1 : Int32)))) H := hP
            have hD : va_D A (wM h a1 a2 a3 a4 a5 a6 cA me tm hA rA lT jA pT (upd (mCutsI was cF g bits (mEff tm (mNb tm hA)) i) (mCp g (nI i)).toNatClampNeg ((-1 : Int32)))) := hD
            refine lv_goto (tgt := 178) hx hb dX1_join_138 (by decide) ?_
            refine lv_iinc (v := nI (i + 1)) (lv' := [(5, .int (nI (i + 1))), (7, .int ((1 : Int32))), (6, .int ((0 : Int32))), (0, .ref h), (1, .int g), (2, .int q), (3, .int bits), (4, .int (bI was))]) hx hb dX1_join_178 hl (k := 7) rfl (nI_1 _) (by decide) rfl (fun ls hl => ?_)
            refine lv_goto (tgt := 68) hx hb dX1_join_181 (by decide) ?_
            exact ih (i + 1) (by omega) _ _ ls (by rw [mCutsI_n (decide_eq_false c82)]; exact hP) (by rw [mCutsI_n (decide_eq_false c82)]; exact hD) hS (lv_sub hl [3, 4, 5, 6, 7, 0] rfl)
        · have b94 := bI_nz c94
          refine lv_aload_n hx hb dX1_join_97 rfl (lv_at hl 1 rfl) ?_
          refine va_get (D := (dC, dI)) (ci := 1) (v := .ref a6) (C := RX1) (T := TX1) (N := 8) hx hb hts iwsX1_join hown hK hP 0 rfl rfl 7 (by decide) (hts (.fieldLink RX1 25 "BranchTimesModel" "cutFrom" "[I") (by decide +kernel)) (fun _ h9 => h9) rfl dX1_join_98 ?_
          refine lv_bipush (v := 16) hx hb dX1_join_101 (by decide) ?_
          refine lv_iload_n hx hb dX1_join_103 rfl (lv_at hl 2 rfl) ?_
          refine lv_imul hx hb dX1_join_104 ?_
          refine lv_iload hx hb dX1_join_105 (lv_at hl 6 rfl) ?_
          refine lv_iadd hx hb dX1_join_107 ?_
          refine lv_top (x' := mCp g (nI i)) (rfl) ?_
          refine va_iald (D := (dC, dI)) hx hb hK hP 6 0 rfl rfl (mCp_in hg (xSrc_nI hlt)) dX1_join_108 ?_
          refine lv_iconst (v := -1) hx hb dX1_join_109 (by decide) ?_
          refine lv_icmp_ne (tgt := 117) hx hb dX1_join_110 (by decide) (fun c110 => ?_) (fun c110 => ?_)
          · refine lv_iconst (v := 0) hx hb dX1_join_117 (by decide) ?_
            refine lv_istore (lv' := [(7, .int ((0 : Int32))), (6, .int ((0 : Int32))), (0, .ref h), (1, .int g), (2, .int q), (3, .int bits), (4, .int (bI was)), (5, .int (nI i))]) hx hb dX1_join_118 hl (by decide) rfl (fun ls hl => ?_)
            refine lv_iload hx hb dX1_join_120 (lv_at hl 1 rfl) ?_
            refine lv_if_ne (tgt := 141) hx hb dX1_join_122 (by decide) (fun c122 => ?_) (fun c122 => ?_)
            · exact absurd c122 (by decide)
            · clear c122
              refine lv_aload_n hx hb dX1_join_125 rfl (lv_at hl 2 rfl) ?_
              refine va_get (D := (dC, dI)) (ci := 1) (v := .ref a6) (C := RX1) (T := TX1) (N := 8) hx hb hts iwsX1_join hown hK hP 0 rfl rfl 7 (by decide) (hts (.fieldLink RX1 25 "BranchTimesModel" "cutFrom" "[I") (by decide +kernel)) (fun _ h9 => h9) rfl dX1_join_126 ?_
              refine lv_bipush (v := 16) hx hb dX1_join_129 (by decide) ?_
              refine lv_iload_n hx hb dX1_join_131 rfl (lv_at hl 3 rfl) ?_
              refine lv_imul hx hb dX1_join_132 ?_
              refine lv_iload hx hb dX1_join_133 (lv_at hl 7 rfl) ?_
              refine lv_iadd hx hb dX1_join_135 ?_
              refine lv_top (x' := mCp g (nI i)) (rfl) ?_
              refine lv_iconst (v := -1) hx hb dX1_join_136 (by decide) ?_
              refine va_iast (D := (dC, dI)) hx hb hK hP hD hS 6 0 rfl rfl (mCp_in hg (xSrc_nI hlt)) dX1_join_137 (fun H locs hP hD hS => ?_)
              have hP : va_P (dC, dI) vwCl (wM h a1 a2 a3 a4 a5 a6 cA me tm hA rA lT jA pT (upd (mCutsI was cF g bits (mEff tm (mNb tm hA)) i) (mCp g (nI i)).toNatClampNeg ((-1 : Int32)))) H := hP
              have hD : va_D A (wM h a1 a2 a3 a4 a5 a6 cA me tm hA rA lT jA pT (upd (mCutsI was cF g bits (mEff tm (mNb tm hA)) i) (mCp g (nI i)).toNatClampNeg ((-1 : Int32)))) := hD
              refine lv_goto (tgt := 178) hx hb dX1_join_138 (by decide) ?_
              refine lv_iinc (v := nI (i + 1)) (lv' := [(5, .int (nI (i + 1))), (7, .int ((0 : Int32))), (6, .int ((0 : Int32))), (0, .ref h), (1, .int g), (2, .int q), (3, .int bits), (4, .int (bI was))]) hx hb dX1_join_178 hl (k := 7) rfl (nI_1 _) (by decide) rfl (fun ls hl => ?_)
              refine lv_goto (tgt := 68) hx hb dX1_join_181 (by decide) ?_
              exact ih (i + 1) (by omega) _ _ ls (by rw [mCutsI_n (decide_eq_false c82)]; exact hP) (by rw [mCutsI_n (decide_eq_false c82)]; exact hD) hS (lv_sub hl [3, 4, 5, 6, 7, 0] rfl)
          · refine lv_iconst (v := 1) hx hb dX1_join_113 (by decide) ?_
            refine lv_goto (tgt := 118) hx hb dX1_join_114 (by decide) ?_
            refine lv_istore (lv' := [(7, .int ((1 : Int32))), (6, .int ((0 : Int32))), (0, .ref h), (1, .int g), (2, .int q), (3, .int bits), (4, .int (bI was)), (5, .int (nI i))]) hx hb dX1_join_118 hl (by decide) rfl (fun ls hl => ?_)
            refine lv_iload hx hb dX1_join_120 (lv_at hl 1 rfl) ?_
            refine lv_if_ne (tgt := 141) hx hb dX1_join_122 (by decide) (fun c122 => ?_) (fun c122 => ?_)
            · exact absurd c122 (by decide)
            · clear c122
              refine lv_aload_n hx hb dX1_join_125 rfl (lv_at hl 2 rfl) ?_
              refine va_get (D := (dC, dI)) (ci := 1) (v := .ref a6) (C := RX1) (T := TX1) (N := 8) hx hb hts iwsX1_join hown hK hP 0 rfl rfl 7 (by decide) (hts (.fieldLink RX1 25 "BranchTimesModel" "cutFrom" "[I") (by decide +kernel)) (fun _ h9 => h9) rfl dX1_join_126 ?_
              refine lv_bipush (v := 16) hx hb dX1_join_129 (by decide) ?_
              refine lv_iload_n hx hb dX1_join_131 rfl (lv_at hl 3 rfl) ?_
              refine lv_imul hx hb dX1_join_132 ?_
              refine lv_iload hx hb dX1_join_133 (lv_at hl 7 rfl) ?_
              refine lv_iadd hx hb dX1_join_135 ?_
              refine lv_top (x' := mCp g (nI i)) (rfl) ?_
              refine lv_iconst (v := -1) hx hb dX1_join_136 (by decide) ?_
              refine va_iast (D := (dC, dI)) hx hb hK hP hD hS 6 0 rfl rfl (mCp_in hg (xSrc_nI hlt)) dX1_join_137 (fun H locs hP hD hS => ?_)
              have hP : va_P (dC, dI) vwCl (wM h a1 a2 a3 a4 a5 a6 cA me tm hA rA lT jA pT (upd (mCutsI was cF g bits (mEff tm (mNb tm hA)) i) (mCp g (nI i)).toNatClampNeg ((-1 : Int32)))) H := hP
              have hD : va_D A (wM h a1 a2 a3 a4 a5 a6 cA me tm hA rA lT jA pT (upd (mCutsI was cF g bits (mEff tm (mNb tm hA)) i) (mCp g (nI i)).toNatClampNeg ((-1 : Int32)))) := hD
              refine lv_goto (tgt := 178) hx hb dX1_join_138 (by decide) ?_
              refine lv_iinc (v := nI (i + 1)) (lv' := [(5, .int (nI (i + 1))), (7, .int ((1 : Int32))), (6, .int ((0 : Int32))), (0, .ref h), (1, .int g), (2, .int q), (3, .int bits), (4, .int (bI was))]) hx hb dX1_join_178 hl (k := 7) rfl (nI_1 _) (by decide) rfl (fun ls hl => ?_)
              refine lv_goto (tgt := 68) hx hb dX1_join_181 (by decide) ?_
              exact ih (i + 1) (by omega) _ _ ls (by rw [mCutsI_n (decide_eq_false c82)]; exact hP) (by rw [mCutsI_n (decide_eq_false c82)]; exact hD) hS (lv_sub hl [3, 4, 5, 6, 7, 0] rfl)
      · refine lv_iconst (v := 1) hx hb dX1_join_85 (by decide) ?_
        refine lv_goto (tgt := 90) hx hb dX1_join_86 (by decide) ?_
        refine lv_istore (lv' := [(6, .int ((1 : Int32))), (0, .ref h), (1, .int g), (2, .int q), (3, .int bits), (4, .int (bI was)), (5, .int (nI i))]) hx hb dX1_join_90 hl (by decide) rfl (fun ls hl => ?_)
        refine lv_iload hx hb dX1_join_92 (lv_at hl 5 rfl) ?_
        refine lv_if_eq (tgt := 113) hx hb dX1_join_94 (by decide) (fun c94 => ?_) (fun c94 => ?_)
        · have b94 := bI_z c94
          refine lv_iconst (v := 1) hx hb dX1_join_113 (by decide) ?_
          refine lv_goto (tgt := 118) hx hb dX1_join_114 (by decide) ?_
          refine lv_istore (lv' := [(7, .int ((1 : Int32))), (6, .int ((1 : Int32))), (0, .ref h), (1, .int g), (2, .int q), (3, .int bits), (4, .int (bI was)), (5, .int (nI i))]) hx hb dX1_join_118 hl (by decide) rfl (fun ls hl => ?_)
          refine lv_iload hx hb dX1_join_120 (lv_at hl 1 rfl) ?_
          refine lv_if_ne (tgt := 141) hx hb dX1_join_122 (by decide) (fun c122 => ?_) (fun c122 => ?_)
          · clear c122
            refine lv_iload hx hb dX1_join_141 (lv_at hl 0 rfl) ?_
            refine lv_if_eq (tgt := 178) hx hb dX1_join_143 (by decide) (fun c143 => ?_) (fun c143 => ?_)
            · exact absurd c143 (by decide)
            · clear c143
              refine lv_aload_n hx hb dX1_join_146 rfl (lv_at hl 2 rfl) ?_
              refine va_get (D := (dC, dI)) (ci := 1) (v := .ref a6) (C := RX1) (T := TX1) (N := 8) hx hb hts iwsX1_join hown hK hP 0 rfl rfl 7 (by decide) (hts (.fieldLink RX1 25 "BranchTimesModel" "cutFrom" "[I") (by decide +kernel)) (fun _ h9 => h9) rfl dX1_join_147 ?_
              refine lv_bipush (v := 16) hx hb dX1_join_150 (by decide) ?_
              refine lv_iload_n hx hb dX1_join_152 rfl (lv_at hl 3 rfl) ?_
              refine lv_imul hx hb dX1_join_153 ?_
              refine lv_iload hx hb dX1_join_154 (lv_at hl 7 rfl) ?_
              refine lv_iadd hx hb dX1_join_156 ?_
              refine lv_top (x' := mCp g (nI i)) (rfl) ?_
              refine lv_aload_n hx hb dX1_join_157 rfl (lv_at hl 2 rfl) ?_
              refine rd_V (As := []) (rest := [.int (mCp g (nI i)), .ref a6]) (ci := 1) (qc := (RX1, TX1, 8)) S (c_X1_isCrowded l dC dI h a1 a2 a3 a4 a5 a6 cA me tm hA rA lT jA pT (mCutsI was cF g bits (mEff tm (mNb tm hA)) i)) gX1_join_X1_isCrowded rfl ⟨rfl, rfl⟩ hd_X1_isCrowded ⟨Nat.le_of_ble_eq_true rfl, Nat.le_of_ble_eq_true rfl⟩ hK hP rfl rfl rfl hl.1 rfl (Nat.le_of_ble_eq_true rfl) dX1_join_158 hcs ?_
              refine lv_if_eq (tgt := 173) hx hb dX1_join_161 (by decide) (fun c161 => ?_) (fun c161 => ?_)
              · have b161 := bI_z c161
                refine lv_aload_n hx hb dX1_join_173 rfl (lv_at hl 2 rfl) ?_
                refine va_get (D := (dC, dI)) (ci := 1) (v := .int tm) (C := RX1) (T := TX1) (N := 8) hx hb hts iwsX1_join hown hK hP 0 rfl rfl 1 (by decide) (hts (.fieldLink RX1 39 "BranchTimesModel" "time" "I") (by decide +kernel)) (fun _ h9 => h9) rfl dX1_join_174 ?_
                refine lv_top (x' := mEff tm (mNb tm hA)) (by simp [mEff, b161]) ?_
                refine va_iast (D := (dC, dI)) hx hb hK hP hD hS 6 0 rfl rfl (mCp_in hg (xSrc_nI hlt)) dX1_join_177 (fun H locs hP hD hS => ?_)
                have hP : va_P (dC, dI) vwCl (wM h a1 a2 a3 a4 a5 a6 cA me tm hA rA lT jA pT (upd (mCutsI was cF g bits (mEff tm (mNb tm hA)) i) (mCp g (nI i)).toNatClampNeg (mEff tm (mNb tm hA)))) H := hP
                have hD : va_D A (wM h a1 a2 a3 a4 a5 a6 cA me tm hA rA lT jA pT (upd (mCutsI was cF g bits (mEff tm (mNb tm hA)) i) (mCp g (nI i)).toNatClampNeg (mEff tm (mNb tm hA)))) := hD
                refine lv_iinc (v := nI (i + 1)) (lv' := [(5, .int (nI (i + 1))), (7, .int ((1 : Int32))), (6, .int ((1 : Int32))), (0, .ref h), (1, .int g), (2, .int q), (3, .int bits), (4, .int (bI was))]) hx hb dX1_join_178 hl (k := 7) rfl (nI_1 _) (by decide) rfl (fun ls hl => ?_)
                refine lv_goto (tgt := 68) hx hb dX1_join_181 (by decide) ?_
                exact ih (i + 1) (by omega) _ _ ls (by rw [mCutsI_s (decide_eq_true c82) (Or.inl b94)]; exact hP) (by rw [mCutsI_s (decide_eq_true c82) (Or.inl b94)]; exact hD) hS (lv_sub hl [3, 4, 5, 6, 7, 0] rfl)
              · have b161 := bI_nz c161
                refine lv_aload_n hx hb dX1_join_164 rfl (lv_at hl 2 rfl) ?_
                refine va_get (D := (dC, dI)) (ci := 1) (v := .int tm) (C := RX1) (T := TX1) (N := 8) hx hb hts iwsX1_join hown hK hP 0 rfl rfl 1 (by decide) (hts (.fieldLink RX1 39 "BranchTimesModel" "time" "I") (by decide +kernel)) (fun _ h9 => h9) rfl dX1_join_165 ?_
                refine lv_iconst (v := 3) hx hb dX1_join_168 (by decide) ?_
                refine lv_iadd hx hb dX1_join_169 ?_
                refine lv_goto (tgt := 177) hx hb dX1_join_170 (by decide) ?_
                refine lv_top (x' := mEff tm (mNb tm hA)) (by simp [mEff, b161]) ?_
                refine va_iast (D := (dC, dI)) hx hb hK hP hD hS 6 0 rfl rfl (mCp_in hg (xSrc_nI hlt)) dX1_join_177 (fun H locs hP hD hS => ?_)
                have hP : va_P (dC, dI) vwCl (wM h a1 a2 a3 a4 a5 a6 cA me tm hA rA lT jA pT (upd (mCutsI was cF g bits (mEff tm (mNb tm hA)) i) (mCp g (nI i)).toNatClampNeg (mEff tm (mNb tm hA)))) H := hP
                have hD : va_D A (wM h a1 a2 a3 a4 a5 a6 cA me tm hA rA lT jA pT (upd (mCutsI was cF g bits (mEff tm (mNb tm hA)) i) (mCp g (nI i)).toNatClampNeg (mEff tm (mNb tm hA)))) := hD
                refine lv_iinc (v := nI (i + 1)) (lv' := [(5, .int (nI (i + 1))), (7, .int ((1 : Int32))), (6, .int ((1 : Int32))), (0, .ref h), (1, .int g), (2, .int q), (3, .int bits), (4, .int (bI was))]) hx hb dX1_join_178 hl (k := 7) rfl (nI_1 _) (by decide) rfl (fun ls hl => ?_)
                refine lv_goto (tgt := 68) hx hb dX1_join_181 (by decide) ?_
                exact ih (i + 1) (by omega) _ _ ls (by rw [mCutsI_s (decide_eq_true c82) (Or.inl b94)]; exact hP) (by rw [mCutsI_s (decide_eq_true c82) (Or.inl b94)]; exact hD) hS (lv_sub hl [3, 4, 5, 6, 7, 0] rfl)
          · exact absurd c122 (by decide)
        · have b94 := bI_nz c94
          refine lv_aload_n hx hb dX1_join_97 rfl (lv_at hl 1 rfl) ?_
          refine va_get (D := (dC, dI)) (ci := 1) (v := .ref a6) (C := RX1) (T := TX1) (N := 8) hx hb hts iwsX1_join hown hK hP 0 rfl rfl 7 (by decide) (hts (.fieldLink RX1 25 "BranchTimesModel" "cutFrom" "[I") (by decide +kernel)) (fun _ h9 => h9) rfl dX1_join_98 ?_
          refine lv_bipush (v := 16) hx hb dX1_join_101 (by decide) ?_
          refine lv_iload_n hx hb dX1_join_103 rfl (lv_at hl 2 rfl) ?_
          refine lv_imul hx hb dX1_join_104 ?_
          refine lv_iload hx hb dX1_join_105 (lv_at hl 6 rfl) ?_
          refine lv_iadd hx hb dX1_join_107 ?_
          refine lv_top (x' := mCp g (nI i)) (rfl) ?_
          refine va_iald (D := (dC, dI)) hx hb hK hP 6 0 rfl rfl (mCp_in hg (xSrc_nI hlt)) dX1_join_108 ?_
          refine lv_iconst (v := -1) hx hb dX1_join_109 (by decide) ?_
          refine lv_icmp_ne (tgt := 117) hx hb dX1_join_110 (by decide) (fun c110 => ?_) (fun c110 => ?_)
          · refine lv_iconst (v := 0) hx hb dX1_join_117 (by decide) ?_
            refine lv_istore (lv' := [(7, .int ((0 : Int32))), (6, .int ((1 : Int32))), (0, .ref h), (1, .int g), (2, .int q), (3, .int bits), (4, .int (bI was)), (5, .int (nI i))]) hx hb dX1_join_118 hl (by decide) rfl (fun ls hl => ?_)
            refine lv_iload hx hb dX1_join_120 (lv_at hl 1 rfl) ?_
            refine lv_if_ne (tgt := 141) hx hb dX1_join_122 (by decide) (fun c122 => ?_) (fun c122 => ?_)
            · clear c122
              refine lv_iload hx hb dX1_join_141 (lv_at hl 0 rfl) ?_
              refine lv_if_eq (tgt := 178) hx hb dX1_join_143 (by decide) (fun c143 => ?_) (fun c143 => ?_)
              · clear c143
                refine lv_iinc (v := nI (i + 1)) (lv' := [(5, .int (nI (i + 1))), (7, .int ((0 : Int32))), (6, .int ((1 : Int32))), (0, .ref h), (1, .int g), (2, .int q), (3, .int bits), (4, .int (bI was))]) hx hb dX1_join_178 hl (k := 7) rfl (nI_1 _) (by decide) rfl (fun ls hl => ?_)
                refine lv_goto (tgt := 68) hx hb dX1_join_181 (by decide) ?_
                exact ih (i + 1) (by omega) _ _ ls (by rw [mCutsI_k (decide_eq_true c82) b94 c110]; exact hP) (by rw [mCutsI_k (decide_eq_true c82) b94 c110]; exact hD) hS (lv_sub hl [3, 4, 5, 6, 7, 0] rfl)
              · exact absurd c143 (by decide)
            · exact absurd c122 (by decide)
          · refine lv_iconst (v := 1) hx hb dX1_join_113 (by decide) ?_
            refine lv_goto (tgt := 118) hx hb dX1_join_114 (by decide) ?_
            refine lv_istore (lv' := [(7, .int ((1 : Int32))), (6, .int ((1 : Int32))), (0, .ref h), (1, .int g), (2, .int q), (3, .int bits), (4, .int (bI was)), (5, .int (nI i))]) hx hb dX1_join_118 hl (by decide) rfl (fun ls hl => ?_)
            refine lv_iload hx hb dX1_join_120 (lv_at hl 1 rfl) ?_
            refine lv_if_ne (tgt := 141) hx hb dX1_join_122 (by decide) (fun c122 => ?_) (fun c122 => ?_)
            · clear c122
              refine lv_iload hx hb dX1_join_141 (lv_at hl 0 rfl) ?_
              refine lv_if_eq (tgt := 178) hx hb dX1_join_143 (by decide) (fun c143 => ?_) (fun c143 => ?_)
              · exact absurd c143 (by decide)
              · clear c143
                refine lv_aload_n hx hb dX1_join_146 rfl (lv_at hl 2 rfl) ?_
                refine va_get (D := (dC, dI)) (ci := 1) (v := .ref a6) (C := RX1) (T := TX1) (N := 8) hx hb hts iwsX1_join hown hK hP 0 rfl rfl 7 (by decide) (hts (.fieldLink RX1 25 "BranchTimesModel" "cutFrom" "[I") (by decide +kernel)) (fun _ h9 => h9) rfl dX1_join_147 ?_
                refine lv_bipush (v := 16) hx hb dX1_join_150 (by decide) ?_
                refine lv_iload_n hx hb dX1_join_152 rfl (lv_at hl 3 rfl) ?_
                refine lv_imul hx hb dX1_join_153 ?_
                refine lv_iload hx hb dX1_join_154 (lv_at hl 7 rfl) ?_
                refine lv_iadd hx hb dX1_join_156 ?_
                refine lv_top (x' := mCp g (nI i)) (rfl) ?_
                refine lv_aload_n hx hb dX1_join_157 rfl (lv_at hl 2 rfl) ?_
                refine rd_V (As := []) (rest := [.int (mCp g (nI i)), .ref a6]) (ci := 1) (qc := (RX1, TX1, 8)) S (c_X1_isCrowded l dC dI h a1 a2 a3 a4 a5 a6 cA me tm hA rA lT jA pT (mCutsI was cF g bits (mEff tm (mNb tm hA)) i)) gX1_join_X1_isCrowded rfl ⟨rfl, rfl⟩ hd_X1_isCrowded ⟨Nat.le_of_ble_eq_true rfl, Nat.le_of_ble_eq_true rfl⟩ hK hP rfl rfl rfl hl.1 rfl (Nat.le_of_ble_eq_true rfl) dX1_join_158 hcs ?_
                refine lv_if_eq (tgt := 173) hx hb dX1_join_161 (by decide) (fun c161 => ?_) (fun c161 => ?_)
                · have b161 := bI_z c161
                  refine lv_aload_n hx hb dX1_join_173 rfl (lv_at hl 2 rfl) ?_
                  refine va_get (D := (dC, dI)) (ci := 1) (v := .int tm) (C := RX1) (T := TX1) (N := 8) hx hb hts iwsX1_join hown hK hP 0 rfl rfl 1 (by decide) (hts (.fieldLink RX1 39 "BranchTimesModel" "time" "I") (by decide +kernel)) (fun _ h9 => h9) rfl dX1_join_174 ?_
                  refine lv_top (x' := mEff tm (mNb tm hA)) (by simp [mEff, b161]) ?_
                  refine va_iast (D := (dC, dI)) hx hb hK hP hD hS 6 0 rfl rfl (mCp_in hg (xSrc_nI hlt)) dX1_join_177 (fun H locs hP hD hS => ?_)
                  have hP : va_P (dC, dI) vwCl (wM h a1 a2 a3 a4 a5 a6 cA me tm hA rA lT jA pT (upd (mCutsI was cF g bits (mEff tm (mNb tm hA)) i) (mCp g (nI i)).toNatClampNeg (mEff tm (mNb tm hA)))) H := hP
                  have hD : va_D A (wM h a1 a2 a3 a4 a5 a6 cA me tm hA rA lT jA pT (upd (mCutsI was cF g bits (mEff tm (mNb tm hA)) i) (mCp g (nI i)).toNatClampNeg (mEff tm (mNb tm hA)))) := hD
                  refine lv_iinc (v := nI (i + 1)) (lv' := [(5, .int (nI (i + 1))), (7, .int ((1 : Int32))), (6, .int ((1 : Int32))), (0, .ref h), (1, .int g), (2, .int q), (3, .int bits), (4, .int (bI was))]) hx hb dX1_join_178 hl (k := 7) rfl (nI_1 _) (by decide) rfl (fun ls hl => ?_)
                  refine lv_goto (tgt := 68) hx hb dX1_join_181 (by decide) ?_
                  exact ih (i + 1) (by omega) _ _ ls (by rw [mCutsI_s (decide_eq_true c82) (Or.inr c110)]; exact hP) (by rw [mCutsI_s (decide_eq_true c82) (Or.inr c110)]; exact hD) hS (lv_sub hl [3, 4, 5, 6, 7, 0] rfl)
                · have b161 := bI_nz c161
                  refine lv_aload_n hx hb dX1_join_164 rfl (lv_at hl 2 rfl) ?_
                  refine va_get (D := (dC, dI)) (ci := 1) (v := .int tm) (C := RX1) (T := TX1) (N := 8) hx hb hts iwsX1_join hown hK hP 0 rfl rfl 1 (by decide) (hts (.fieldLink RX1 39 "BranchTimesModel" "time" "I") (by decide +kernel)) (fun _ h9 => h9) rfl dX1_join_165 ?_
                  refine lv_iconst (v := 3) hx hb dX1_join_168 (by decide) ?_
                  refine lv_iadd hx hb dX1_join_169 ?_
                  refine lv_goto (tgt := 177) hx hb dX1_join_170 (by decide) ?_
                  refine lv_top (x' := mEff tm (mNb tm hA)) (by simp [mEff, b161]) ?_
                  refine va_iast (D := (dC, dI)) hx hb hK hP hD hS 6 0 rfl rfl (mCp_in hg (xSrc_nI hlt)) dX1_join_177 (fun H locs hP hD hS => ?_)
                  have hP : va_P (dC, dI) vwCl (wM h a1 a2 a3 a4 a5 a6 cA me tm hA rA lT jA pT (upd (mCutsI was cF g bits (mEff tm (mNb tm hA)) i) (mCp g (nI i)).toNatClampNeg (mEff tm (mNb tm hA)))) H := hP
                  have hD : va_D A (wM h a1 a2 a3 a4 a5 a6 cA me tm hA rA lT jA pT (upd (mCutsI was cF g bits (mEff tm (mNb tm hA)) i) (mCp g (nI i)).toNatClampNeg (mEff tm (mNb tm hA)))) := hD
                  refine lv_iinc (v := nI (i + 1)) (lv' := [(5, .int (nI (i + 1))), (7, .int ((1 : Int32))), (6, .int ((1 : Int32))), (0, .ref h), (1, .int g), (2, .int q), (3, .int bits), (4, .int (bI was))]) hx hb dX1_join_178 hl (k := 7) rfl (nI_1 _) (by decide) rfl (fun ls hl => ?_)
                  refine lv_goto (tgt := 68) hx hb dX1_join_181 (by decide) ?_
                  exact ih (i + 1) (by omega) _ _ ls (by rw [mCutsI_s (decide_eq_true c82) (Or.inr c110)]; exact hP) (by rw [mCutsI_s (decide_eq_true c82) (Or.inr c110)]; exact hD) hS (lv_sub hl [3, 4, 5, 6, 7, 0] rfl)
            · exact absurd c122 (by decide)
set_option maxHeartbeats 4000000 in
set_option maxRecDepth 100000 in
theorem c_X1_join (l : Launch) (dC : Nat → ClassId) (dI : Nat → Nat → Nat) (h a1 a2 a3 a4 a5 a6 : Nat) (cA : ClassId) (me tm : Int32) (hA rA lT jA pT cF : Nat → Int32) (g q bits : Int32) (sz : Nat) : Met l yX1_join wsX1_join ({ frames := 2, cells := 0, slots := 0, locals := 44 }) (PW [.ref h, .int g, .int q, .int bits] dC dI cA (wM h a1 a2 a3 a4 a5 a6 cA me tm hA rA lT jA pT cF) sz) (QWi dC dI (bI (mBr g q)) (wM h a1 a2 a3 a4 a5 a6 cA me tm hA rA lT jA pT cF) (wM h a1 a2 a3 a4 a5 a6 cA me tm hA rA lT (mJoA tm jA g q) (mJoP pT g q) (mJoC tm hA jA pT cF g q bits)) sz) 0 0 (va_A (wM h a1 a2 a3 a4 a5 a6 cA me tm hA rA lT jA pT cF) sz) := by
  refine Met.ofW (cc := cX1_join) (maxL := 8) (ret := some .boolean) (by decide) rfl ?_
  intro p e s m args below meth c s₁ B hml hv
  obtain ⟨rfl, hsz, hP, hK, hD0⟩ := hv
  have hx := B.exec
  have hb := B.bytes
  have hr := B.returns
  have hts := atoms_spec (ws := wsX1_join) B.pre
  have hown : s.vm.findClass RX1 = some m.cls := findClass_of_methodNamed B.named
  have hlocks := B.notSynchronized
  have S : CallFix p m c cX1_join 8 s ([.ref h, .int g, .int q, .int bits] : List Value).toArray wsX1_join RX1 := ⟨hx, hb, hml, hown, hts⟩
  subst hsz
  have hD := hD0.self (sz := s.heap.size)
  generalize hAe : va_A (wM h a1 a2 a3 a4 a5 a6 cA me tm hA rA lT jA pT cF) s.heap.size = A at hD ⊢
  have hAA : ∀ q : Nat, s.heap.size ≤ q → A q := fun q h => by rw [← hAe]; exact Or.inr h
  have hS : va_S A s.heap s.heap [] := va_S.rf
  have hQ9 := hAe
  have hl := lv_entry ([.ref h, .int g, .int q, .int bits]) (n := 8) (Nat.le_of_ble_eq_true rfl)
  rw [lg_entry_eq]
  generalize (lg_sl ([.ref h, .int g, .int q, .int bits]) ++ List.replicate (8 - (lg_sl ([.ref h, .int g, .int q, .int bits])).length) Slot.unset).toArray = ls at hl ⊢
  have hl : lv_has ls 8 [(0, .ref h), (1, .int g), (2, .int q), (3, .int bits)] := hl
  refine lv_iload_n hx hb dX1_join_0 rfl (lv_at hl 1 rfl) ?_
  refine lv_iload_n hx hb dX1_join_1 rfl (lv_at hl 2 rfl) ?_
  refine rd_S (As := [.int g, .int q]) (rest := []) S (c_X1_isBranch l g q) gX1_join_X1_isBranch rfl ⟨rfl, rfl⟩ hd_X1_isBranch ⟨Nat.le_of_ble_eq_true rfl, Nat.le_of_ble_eq_true rfl⟩ rfl hl.1 rfl (Nat.le_of_ble_eq_true rfl) dX1_join_2 ⟨Nat.le_of_ble_eq_true rfl, Nat.le_of_ble_eq_true rfl⟩ ?_
  refine lv_if_ne (tgt := 10) hx hb dX1_join_5 (by decide) (fun c5 => ?_) (fun c5 => ?_)
  · have b5 := bI_nz c5
    refine lv_aload_n hx hb dX1_join_10 rfl (lv_at hl 0 rfl) ?_
    refine lv_iload_n hx hb dX1_join_11 rfl (lv_at hl 1 rfl) ?_
    refine lv_iload_n hx hb dX1_join_12 rfl (lv_at hl 2 rfl) ?_
    refine rd_V (As := [.int g, .int q]) (rest := []) (ci := 1) (qc := (RX1, TX1, 8)) S (c_X1_till l dC dI h a1 a2 a3 a4 a5 a6 cA me tm hA rA lT jA pT cF g q b5) gX1_join_X1_till rfl ⟨rfl, rfl⟩ hd_X1_till ⟨Nat.le_of_ble_eq_true rfl, Nat.le_of_ble_eq_true rfl⟩ hK hP rfl rfl rfl hl.1 rfl (Nat.le_of_ble_eq_true rfl) dX1_join_13 ⟨Nat.le_of_ble_eq_true rfl, Nat.le_of_ble_eq_true rfl⟩ ?_
    refine lv_if_le (tgt := 23) hx hb dX1_join_16 (by decide) (fun c16 => ?_) (fun c16 => ?_)
    · refine lv_iconst (v := 0) hx hb dX1_join_23 (by decide) ?_
      refine lv_top (x' := bI (mWas tm jA pT g q)) (by simp [mWas, bI, c16]) ?_
      refine lv_istore (lv' := [(4, .int (bI (mWas tm jA pT g q))), (0, .ref h), (1, .int g), (2, .int q), (3, .int bits)]) hx hb dX1_join_24 hl (by decide) rfl (fun ls hl => ?_)
      refine lv_aload_n hx hb dX1_join_26 rfl (lv_at hl 1 rfl) ?_
      refine va_get (D := (dC, dI)) (ci := 1) (v := .ref a4) (C := RX1) (T := TX1) (N := 8) hx hb hts iwsX1_join hown hK hP 0 rfl rfl 5 (by decide) (hts (.fieldLink RX1 19 "BranchTimesModel" "joinAt" "[I") (by decide +kernel)) (fun _ h9 => h9) rfl dX1_join_27 ?_
      refine lv_bipush (v := 17) hx hb dX1_join_30 (by decide) ?_
      refine lv_iload_n hx hb dX1_join_32 rfl (lv_at hl 2 rfl) ?_
      refine lv_imul hx hb dX1_join_33 ?_
      refine lv_iload_n hx hb dX1_join_34 rfl (lv_at hl 3 rfl) ?_
      refine lv_iadd hx hb dX1_join_35 ?_
      refine lv_iconst (v := 1) hx hb dX1_join_36 (by decide) ?_
      refine lv_iadd hx hb dX1_join_37 ?_
      refine lv_top (x' := mPl g q) (rfl) ?_
      refine lv_aload_n hx hb dX1_join_38 rfl (lv_at hl 1 rfl) ?_
      refine va_get (D := (dC, dI)) (ci := 1) (v := .int tm) (C := RX1) (T := TX1) (N := 8) hx hb hts iwsX1_join hown hK hP 0 rfl rfl 1 (by decide) (hts (.fieldLink RX1 39 "BranchTimesModel" "time" "I") (by decide +kernel)) (fun _ h9 => h9) rfl dX1_join_39 ?_
      refine va_iast (D := (dC, dI)) hx hb hK hP hD hS 4 0 rfl rfl (mPl_in b5) dX1_join_42 (fun H locs hP hD hS => ?_)
      have hP : va_P (dC, dI) vwCl (wM h a1 a2 a3 a4 a5 a6 cA me tm hA rA lT (upd jA (mPl g q).toNatClampNeg tm) pT cF) H := hP
      have hD : va_D A (wM h a1 a2 a3 a4 a5 a6 cA me tm hA rA lT (upd jA (mPl g q).toNatClampNeg tm) pT cF) := hD
      refine lv_aload_n hx hb dX1_join_43 rfl (lv_at hl 1 rfl) ?_
      refine va_get (D := (dC, dI)) (ci := 1) (v := .ref a5) (C := RX1) (T := TX1) (N := 8) hx hb hts iwsX1_join hown hK hP 0 rfl rfl 6 (by decide) (hts (.fieldLink RX1 22 "BranchTimesModel" "prunedTill" "[I") (by decide +kernel)) (fun _ h9 => h9) rfl dX1_join_44 ?_
      refine lv_bipush (v := 17) hx hb dX1_join_47 (by decide) ?_
      refine lv_iload_n hx hb dX1_join_49 rfl (lv_at hl 2 rfl) ?_
      refine lv_imul hx hb dX1_join_50 ?_
      refine lv_iload_n hx hb dX1_join_51 rfl (lv_at hl 3 rfl) ?_
      refine lv_iadd hx hb dX1_join_52 ?_
      refine lv_iconst (v := 1) hx hb dX1_join_53 (by decide) ?_
      refine lv_iadd hx hb dX1_join_54 ?_
      refine lv_top (x' := mPl g q) (rfl) ?_
      refine lv_ldc (v := 1000000) hx hb hown (hts (.constant RX1 47 (1000000)) (by decide +kernel)) dX1_join_55 ?_
      refine va_iast (D := (dC, dI)) hx hb hK hP hD hS 5 0 rfl rfl (mPl_in b5) dX1_join_57 (fun H locs hP hD hS => ?_)
      have hP : va_P (dC, dI) vwCl (wM h a1 a2 a3 a4 a5 a6 cA me tm hA rA lT (upd jA (mPl g q).toNatClampNeg tm) (upd pT (mPl g q).toNatClampNeg ((1000000 : Int32))) cF) H := hP
      have hD : va_D A (wM h a1 a2 a3 a4 a5 a6 cA me tm hA rA lT (upd jA (mPl g q).toNatClampNeg tm) (upd pT (mPl g q).toNatClampNeg ((1000000 : Int32))) cF) := hD
      refine lv_iload_n hx hb dX1_join_58 rfl (lv_at hl 3 rfl) ?_
      refine lv_iconst (v := -1) hx hb dX1_join_59 (by decide) ?_
      refine lv_icmp_eq (tgt := 65) hx hb dX1_join_60 (by decide) (fun c60 => ?_) (fun c60 => ?_)
      · refine lv_iconst (v := 0) hx hb dX1_join_65 (by decide) ?_
        refine lv_istore (lv' := [(5, .int ((0 : Int32))), (4, .int (bI (mWas tm jA pT g q))), (0, .ref h), (1, .int g), (2, .int q), (3, .int bits)]) hx hb dX1_join_66 hl (by decide) rfl (fun ls hl => ?_)
        refine lp_X1_join_68 l dC dI h a1 a2 a3 a4 a5 a6 cA me tm hA rA lT (upd jA (mPl g q).toNatClampNeg tm) (upd pT (mPl g q).toNatClampNeg ((1000000 : Int32))) cF g q bits (mWas tm jA pT g q) (mBr_G b5) S hK hAA ⟨Nat.le_of_ble_eq_true rfl, Nat.le_of_ble_eq_true rfl⟩ (fun H locs ls hP hD hS hl => ?_) 16 0 rfl _ _ ls hP hD hS (lv_sub hl [2, 3, 4, 5, 1, 0] rfl)
        refine lv_iconst (v := 1) hx hb dX1_join_184 (by decide) ?_
        have e5 : mJoA tm jA g q = upd jA (mPl g q).toNatClampNeg tm := if_pos b5
        have e6 : mJoP pT g q = upd pT (mPl g q).toNatClampNeg ((1000000 : Int32)) := if_pos b5
        have e7 : mJoC tm hA jA pT cF g q bits = mCutsI (mWas tm jA pT g q) cF g bits (mEff tm (mNb tm hA)) 16 := if_pos (by unfold mJoS; rw [b5, c60]; rfl)
        have hP9 : va_P (dC, dI) vwCl (wM h a1 a2 a3 a4 a5 a6 cA me tm hA rA lT (mJoA tm jA g q) (mJoP pT g q) (mJoC tm hA jA pT cF g q bits)) H := by rw [e5, e6, e7]; exact hP
        have er : (1 : Int32) = bI (mBr g q) := bI_1 b5
        exact W.zret (v := (1 : Int32)) (ty := .boolean) hx hb hr rfl (fun t ht hW => ⟨⟨_, (), rfl, er, by dsimp only; rw [ht]; exact hP9⟩, by rw [hQ9]; exact hS.F ht⟩) hS.2.2 dX1_join_185
      · refine lv_iconst (v := 1) hx hb dX1_join_63 (by decide) ?_
        have e5 : mJoA tm jA g q = upd jA (mPl g q).toNatClampNeg tm := by simp [mJoA, mJoP, mJoC, mJoS, bI, b5, c16, c60]
        have e6 : mJoP pT g q = upd pT (mPl g q).toNatClampNeg ((1000000 : Int32)) := by simp [mJoA, mJoP, mJoC, mJoS, bI, b5, c16, c60]
        have e7 : mJoC tm hA jA pT cF g q bits = cF := by simp [mJoA, mJoP, mJoC, mJoS, bI, b5, c16, c60]
        have hP9 : va_P (dC, dI) vwCl (wM h a1 a2 a3 a4 a5 a6 cA me tm hA rA lT (mJoA tm jA g q) (mJoP pT g q) (mJoC tm hA jA pT cF g q bits)) H := by rw [e5, e6, e7]; exact hP
        have er : (1 : Int32) = bI (mBr g q) := by simp [mJoA, mJoP, mJoC, mJoS, bI, b5, c16, c60]
        exact W.zret (v := (1 : Int32)) (ty := .boolean) hx hb hr rfl (fun t ht hW => ⟨⟨_, (), rfl, er, by dsimp only; rw [ht]; exact hP9⟩, by rw [hQ9]; exact hS.F ht⟩) hS.2.2 dX1_join_64
    · refine lv_iconst (v := 1) hx hb dX1_join_19 (by decide) ?_
      refine lv_goto (tgt := 24) hx hb dX1_join_20 (by decide) ?_
      refine lv_top (x' := bI (mWas tm jA pT g q)) (by simp [mWas, bI, c16]) ?_
      refine lv_istore (lv' := [(4, .int (bI (mWas tm jA pT g q))), (0, .ref h), (1, .int g), (2, .int q), (3, .int bits)]) hx hb dX1_join_24 hl (by decide) rfl (fun ls hl => ?_)
      refine lv_aload_n hx hb dX1_join_26 rfl (lv_at hl 1 rfl) ?_
      refine va_get (D := (dC, dI)) (ci := 1) (v := .ref a4) (C := RX1) (T := TX1) (N := 8) hx hb hts iwsX1_join hown hK hP 0 rfl rfl 5 (by decide) (hts (.fieldLink RX1 19 "BranchTimesModel" "joinAt" "[I") (by decide +kernel)) (fun _ h9 => h9) rfl dX1_join_27 ?_
      refine lv_bipush (v := 17) hx hb dX1_join_30 (by decide) ?_
      refine lv_iload_n hx hb dX1_join_32 rfl (lv_at hl 2 rfl) ?_
      refine lv_imul hx hb dX1_join_33 ?_
      refine lv_iload_n hx hb dX1_join_34 rfl (lv_at hl 3 rfl) ?_
      refine lv_iadd hx hb dX1_join_35 ?_
      refine lv_iconst (v := 1) hx hb dX1_join_36 (by decide) ?_
      refine lv_iadd hx hb dX1_join_37 ?_
      refine lv_top (x' := mPl g q) (rfl) ?_
      refine lv_aload_n hx hb dX1_join_38 rfl (lv_at hl 1 rfl) ?_
      refine va_get (D := (dC, dI)) (ci := 1) (v := .int tm) (C := RX1) (T := TX1) (N := 8) hx hb hts iwsX1_join hown hK hP 0 rfl rfl 1 (by decide) (hts (.fieldLink RX1 39 "BranchTimesModel" "time" "I") (by decide +kernel)) (fun _ h9 => h9) rfl dX1_join_39 ?_
      refine va_iast (D := (dC, dI)) hx hb hK hP hD hS 4 0 rfl rfl (mPl_in b5) dX1_join_42 (fun H locs hP hD hS => ?_)
      have hP : va_P (dC, dI) vwCl (wM h a1 a2 a3 a4 a5 a6 cA me tm hA rA lT (upd jA (mPl g q).toNatClampNeg tm) pT cF) H := hP
      have hD : va_D A (wM h a1 a2 a3 a4 a5 a6 cA me tm hA rA lT (upd jA (mPl g q).toNatClampNeg tm) pT cF) := hD
      refine lv_aload_n hx hb dX1_join_43 rfl (lv_at hl 1 rfl) ?_
      refine va_get (D := (dC, dI)) (ci := 1) (v := .ref a5) (C := RX1) (T := TX1) (N := 8) hx hb hts iwsX1_join hown hK hP 0 rfl rfl 6 (by decide) (hts (.fieldLink RX1 22 "BranchTimesModel" "prunedTill" "[I") (by decide +kernel)) (fun _ h9 => h9) rfl dX1_join_44 ?_
      refine lv_bipush (v := 17) hx hb dX1_join_47 (by decide) ?_
      refine lv_iload_n hx hb dX1_join_49 rfl (lv_at hl 2 rfl) ?_
      refine lv_imul hx hb dX1_join_50 ?_
      refine lv_iload_n hx hb dX1_join_51 rfl (lv_at hl 3 rfl) ?_
      refine lv_iadd hx hb dX1_join_52 ?_
      refine lv_iconst (v := 1) hx hb dX1_join_53 (by decide) ?_
      refine lv_iadd hx hb dX1_join_54 ?_
      refine lv_top (x' := mPl g q) (rfl) ?_
      refine lv_ldc (v := 1000000) hx hb hown (hts (.constant RX1 47 (1000000)) (by decide +kernel)) dX1_join_55 ?_
      refine va_iast (D := (dC, dI)) hx hb hK hP hD hS 5 0 rfl rfl (mPl_in b5) dX1_join_57 (fun H locs hP hD hS => ?_)
      have hP : va_P (dC, dI) vwCl (wM h a1 a2 a3 a4 a5 a6 cA me tm hA rA lT (upd jA (mPl g q).toNatClampNeg tm) (upd pT (mPl g q).toNatClampNeg ((1000000 : Int32))) cF) H := hP
      have hD : va_D A (wM h a1 a2 a3 a4 a5 a6 cA me tm hA rA lT (upd jA (mPl g q).toNatClampNeg tm) (upd pT (mPl g q).toNatClampNeg ((1000000 : Int32))) cF) := hD
      refine lv_iload_n hx hb dX1_join_58 rfl (lv_at hl 3 rfl) ?_
      refine lv_iconst (v := -1) hx hb dX1_join_59 (by decide) ?_
      refine lv_icmp_eq (tgt := 65) hx hb dX1_join_60 (by decide) (fun c60 => ?_) (fun c60 => ?_)
      · refine lv_iconst (v := 0) hx hb dX1_join_65 (by decide) ?_
        refine lv_istore (lv' := [(5, .int ((0 : Int32))), (4, .int (bI (mWas tm jA pT g q))), (0, .ref h), (1, .int g), (2, .int q), (3, .int bits)]) hx hb dX1_join_66 hl (by decide) rfl (fun ls hl => ?_)
        refine lp_X1_join_68 l dC dI h a1 a2 a3 a4 a5 a6 cA me tm hA rA lT (upd jA (mPl g q).toNatClampNeg tm) (upd pT (mPl g q).toNatClampNeg ((1000000 : Int32))) cF g q bits (mWas tm jA pT g q) (mBr_G b5) S hK hAA ⟨Nat.le_of_ble_eq_true rfl, Nat.le_of_ble_eq_true rfl⟩ (fun H locs ls hP hD hS hl => ?_) 16 0 rfl _ _ ls hP hD hS (lv_sub hl [2, 3, 4, 5, 1, 0] rfl)
        refine lv_iconst (v := 1) hx hb dX1_join_184 (by decide) ?_
        have e5 : mJoA tm jA g q = upd jA (mPl g q).toNatClampNeg tm := if_pos b5
        have e6 : mJoP pT g q = upd pT (mPl g q).toNatClampNeg ((1000000 : Int32)) := if_pos b5
        have e7 : mJoC tm hA jA pT cF g q bits = mCutsI (mWas tm jA pT g q) cF g bits (mEff tm (mNb tm hA)) 16 := if_pos (by unfold mJoS; rw [b5, c60]; rfl)
        have hP9 : va_P (dC, dI) vwCl (wM h a1 a2 a3 a4 a5 a6 cA me tm hA rA lT (mJoA tm jA g q) (mJoP pT g q) (mJoC tm hA jA pT cF g q bits)) H := by rw [e5, e6, e7]; exact hP
        have er : (1 : Int32) = bI (mBr g q) := bI_1 b5
        exact W.zret (v := (1 : Int32)) (ty := .boolean) hx hb hr rfl (fun t ht hW => ⟨⟨_, (), rfl, er, by dsimp only; rw [ht]; exact hP9⟩, by rw [hQ9]; exact hS.F ht⟩) hS.2.2 dX1_join_185
      · refine lv_iconst (v := 1) hx hb dX1_join_63 (by decide) ?_
        have e5 : mJoA tm jA g q = upd jA (mPl g q).toNatClampNeg tm := by simp [mJoA, mJoP, mJoC, mJoS, bI, b5, c16, c60]
        have e6 : mJoP pT g q = upd pT (mPl g q).toNatClampNeg ((1000000 : Int32)) := by simp [mJoA, mJoP, mJoC, mJoS, bI, b5, c16, c60]
        have e7 : mJoC tm hA jA pT cF g q bits = cF := by simp [mJoA, mJoP, mJoC, mJoS, bI, b5, c16, c60]
        have hP9 : va_P (dC, dI) vwCl (wM h a1 a2 a3 a4 a5 a6 cA me tm hA rA lT (mJoA tm jA g q) (mJoP pT g q) (mJoC tm hA jA pT cF g q bits)) H := by rw [e5, e6, e7]; exact hP
        have er : (1 : Int32) = bI (mBr g q) := by simp [mJoA, mJoP, mJoC, mJoS, bI, b5, c16, c60]
        exact W.zret (v := (1 : Int32)) (ty := .boolean) hx hb hr rfl (fun t ht hW => ⟨⟨_, (), rfl, er, by dsimp only; rw [ht]; exact hP9⟩, by rw [hQ9]; exact hS.F ht⟩) hS.2.2 dX1_join_64
  · have b5 := bI_z c5
    refine lv_iconst (v := 0) hx hb dX1_join_8 (by decide) ?_
    have e5 : mJoA tm jA g q = jA := by simp [mJoA, mJoP, mJoC, mJoS, bI, b5]
    have e6 : mJoP pT g q = pT := by simp [mJoA, mJoP, mJoC, mJoS, bI, b5]
    have e7 : mJoC tm hA jA pT cF g q bits = cF := by simp [mJoA, mJoP, mJoC, mJoS, bI, b5]
    have hP9 : va_P (dC, dI) vwCl (wM h a1 a2 a3 a4 a5 a6 cA me tm hA rA lT (mJoA tm jA g q) (mJoP pT g q) (mJoC tm hA jA pT cF g q bits)) s.heap := by rw [e5, e6, e7]; exact hP
    have er : (0 : Int32) = bI (mBr g q) := by simp [mJoA, mJoP, mJoC, mJoS, bI, b5]
    exact W.zret (v := (0 : Int32)) (ty := .boolean) hx hb hr rfl (fun t ht hW => ⟨⟨_, (), rfl, er, by dsimp only; rw [ht]; exact hP9⟩, by rw [hQ9]; exact hS.F ht⟩) hS.2.2 dX1_join_9
theorem hd_X1_join : yX1_join.cls = RX1 ∧ yX1_join.cls ≠ "java/lang/invoke/MethodHandle" ∧ yX1_join.cls ≠ "java/lang/invoke/VarHandle" ∧ (parseMethodDescriptor yX1_join.desc).map (fun d => d.parameters.length) = some 3 := by decide +kernel

theorem iwsX1_forgetAll : ∀ w ∈ u_ws RX1 TX1 8, w ∈ wsX1_forgetAll := fun _ h => List.mem_cons_of_mem _ (List.mem_append_right _ h)
set_option maxHeartbeats 4000000 in
set_option maxRecDepth 100000 in
theorem lp_X1_forgetAll_2 {p : Program} {e : Env} {s : State} {m : MethodId} {args : Array Value} {below : List Frame} {meth : Method} {c : Code} {cells slots : Nat} {Q : State → Prop} {A : Nat → Prop} {H0 : Heap} (l : Launch) (dC : Nat → ClassId) (dI : Nat → Nat → Nat) (h a1 a2 a3 a4 a5 a6 : Nat) (cA : ClassId) (me tm : Int32) (hA rA lT jA pT cF : Nat → Int32) (S : CallFix p m c cX1_forgetAll 2 s args wsX1_forgetAll RX1) (hK : va_K (dC, dI) vwCl [(cA, .int)] s) (hAA : ∀ q, H0.size ≤ q → A q) (hcs : cells + 0 ≤ 0 ∧ slots + 0 ≤ 0) (k : ∀ (H : Heap) (locs : List Loc) (ls : Array Slot), va_P (dC, dI) vwCl (wM h a1 a2 a3 a4 a5 a6 cA me tm (fillI hA (-1 : Int32) 10) rA lT jA pT cF) H → va_D A (wM h a1 a2 a3 a4 a5 a6 cA me tm (fillI hA (-1 : Int32) 10) rA lT jA pT cF) → va_S A H0 H locs → lv_has ls 2 [(0, .ref h), (1, .int (nI 10))] → W p l e ({ frames := 0, cells := 0, slots := 0, locals := 0 }) s m args below meth c H locs cells slots Q (F0 m 21 ls [])) : ∀ (n i : Nat), i + n = 10 → ∀ (H : Heap) (locs : List Loc) (ls : Array Slot), va_P (dC, dI) vwCl (wM h a1 a2 a3 a4 a5 a6 cA me tm (fillI hA (-1 : Int32) i) rA lT jA pT cF) H → va_D A (wM h a1 a2 a3 a4 a5 a6 cA me tm (fillI hA (-1 : Int32) i) rA lT jA pT cF) → va_S A H0 H locs → lv_has ls 2 [(0, .ref h), (1, .int (nI i))] → W p l e ({ frames := 0, cells := 0, slots := 0, locals := 0 }) s m args below meth c H locs cells slots Q (F0 m 2 ls []) := by
  obtain ⟨hx, hb, hml, hown, hts⟩ := id S
  intro n
  induction n with
  | zero =>
    intro i hi H locs ls hP hD hS hl
    obtain rfl : i = 10 := by omega
    refine lv_iload_n hx hb dX1_forgetAll_2 rfl (lv_at hl 1 rfl) ?_
    refine lv_bipush (v := 10) hx hb dX1_forgetAll_3 (by decide) ?_
    refine lv_icmp_ge (tgt := 21) hx hb dX1_forgetAll_5 (by decide) (fun c5 => ?_) (fun c5 => ?_)
    · exact k _ _ ls hP hD hS (lv_sub hl [0, 1] rfl)
    · exact absurd c5 (by decide)
  | succ n ih =>
    intro i hi H locs ls hP hD hS hl
    have hlt : i < 10 := by omega
    have hcl : (nI i).toNatClampNeg = i := nI_clamp (by omega)
    refine lv_iload_n hx hb dX1_forgetAll_2 rfl (lv_at hl 1 rfl) ?_
    refine lv_bipush (v := 10) hx hb dX1_forgetAll_3 (by decide) ?_
    refine lv_icmp_ge (tgt := 21) hx hb dX1_forgetAll_5 (by decide) (fun c5 => ?_) (fun c5 => ?_)
    · exact absurd c5 (nI_ge hlt (by decide))
    · refine lv_aload_n hx hb dX1_forgetAll_8 rfl (lv_at hl 0 rfl) ?_
      refine va_get (D := (dC, dI)) (ci := 1) (v := .ref a1) (C := RX1) (T := TX1) (N := 8) hx hb hts iwsX1_forgetAll hown hK hP 0 rfl rfl 2 (by decide) (hts (.fieldLink RX1 7 "BranchTimesModel" "helloAt" "[I") (by decide +kernel)) (fun _ h9 => h9) rfl dX1_forgetAll_9 ?_
      refine lv_iload_n hx hb dX1_forgetAll_12 rfl (lv_at hl 1 rfl) ?_
      refine lv_iconst (v := -1) hx hb dX1_forgetAll_13 (by decide) ?_
      refine va_iast (D := (dC, dI)) hx hb hK hP hD hS 1 0 rfl rfl (vp_in_nI hlt (by decide)) dX1_forgetAll_14 (fun H locs hP hD hS => ?_)
      have hP : va_P (dC, dI) vwCl (wM h a1 a2 a3 a4 a5 a6 cA me tm (upd (fillI hA (-1 : Int32) i) (nI i).toNatClampNeg ((-1 : Int32))) rA lT jA pT cF) H := hP
      have hD : va_D A (wM h a1 a2 a3 a4 a5 a6 cA me tm (upd (fillI hA (-1 : Int32) i) (nI i).toNatClampNeg ((-1 : Int32))) rA lT jA pT cF) := hD
      have hP : va_P (dC, dI) vwCl (wM h a1 a2 a3 a4 a5 a6 cA me tm (fillI hA (-1 : Int32) (i + 1)) rA lT jA pT cF) H := by rw [show fillI hA (-1 : Int32) (i + 1) = upd (fillI hA (-1 : Int32) i) (nI i).toNatClampNeg ((-1 : Int32)) from by simp only [hcl, fillI]]; exact hP
      have hD : va_D A (wM h a1 a2 a3 a4 a5 a6 cA me tm (fillI hA (-1 : Int32) (i + 1)) rA lT jA pT cF) := D_same hD rfl
      refine lv_iinc (v := nI (i + 1)) (lv' := [(1, .int (nI (i + 1))), (0, .ref h)]) hx hb dX1_forgetAll_15 hl (k := 1) rfl (nI_1 _) (by decide) rfl (fun ls hl => ?_)
      refine lv_goto (tgt := 2) hx hb dX1_forgetAll_18 (by decide) ?_
      exact ih (i + 1) (by omega) _ _ ls (by exact hP) (by exact hD) hS (lv_sub hl [1, 0] rfl)
set_option maxHeartbeats 4000000 in
set_option maxRecDepth 100000 in
theorem lp_X1_forgetAll_23 {p : Program} {e : Env} {s : State} {m : MethodId} {args : Array Value} {below : List Frame} {meth : Method} {c : Code} {cells slots : Nat} {Q : State → Prop} {A : Nat → Prop} {H0 : Heap} (l : Launch) (dC : Nat → ClassId) (dI : Nat → Nat → Nat) (h a1 a2 a3 a4 a5 a6 : Nat) (cA : ClassId) (me tm : Int32) (hA rA lT jA pT cF : Nat → Int32) (S : CallFix p m c cX1_forgetAll 2 s args wsX1_forgetAll RX1) (hK : va_K (dC, dI) vwCl [(cA, .int)] s) (hAA : ∀ q, H0.size ≤ q → A q) (hcs : cells + 0 ≤ 0 ∧ slots + 0 ≤ 0) (k : ∀ (H : Heap) (locs : List Loc) (ls : Array Slot), va_P (dC, dI) vwCl (wM h a1 a2 a3 a4 a5 a6 cA me tm hA (fillI rA (-1 : Int32) 8) lT jA pT cF) H → va_D A (wM h a1 a2 a3 a4 a5 a6 cA me tm hA (fillI rA (-1 : Int32) 8) lT jA pT cF) → va_S A H0 H locs → lv_has ls 2 [(0, .ref h), (1, .int (nI 8))] → W p l e ({ frames := 0, cells := 0, slots := 0, locals := 0 }) s m args below meth c H locs cells slots Q (F0 m 42 ls [])) : ∀ (n i : Nat), i + n = 8 → ∀ (H : Heap) (locs : List Loc) (ls : Array Slot), va_P (dC, dI) vwCl (wM h a1 a2 a3 a4 a5 a6 cA me tm hA (fillI rA (-1 : Int32) i) lT jA pT cF) H → va_D A (wM h a1 a2 a3 a4 a5 a6 cA me tm hA (fillI rA (-1 : Int32) i) lT jA pT cF) → va_S A H0 H locs → lv_has ls 2 [(0, .ref h), (1, .int (nI i))] → W p l e ({ frames := 0, cells := 0, slots := 0, locals := 0 }) s m args below meth c H locs cells slots Q (F0 m 23 ls []) := by
  obtain ⟨hx, hb, hml, hown, hts⟩ := id S
  intro n
  induction n with
  | zero =>
    intro i hi H locs ls hP hD hS hl
    obtain rfl : i = 8 := by omega
    refine lv_iload_n hx hb dX1_forgetAll_23 rfl (lv_at hl 1 rfl) ?_
    refine lv_bipush (v := 8) hx hb dX1_forgetAll_24 (by decide) ?_
    refine lv_icmp_ge (tgt := 42) hx hb dX1_forgetAll_26 (by decide) (fun c26 => ?_) (fun c26 => ?_)
    · exact k _ _ ls hP hD hS (lv_sub hl [0, 1] rfl)
    · exact absurd c26 (by decide)
  | succ n ih =>
    intro i hi H locs ls hP hD hS hl
    have hlt : i < 8 := by omega
    have hcl : (nI i).toNatClampNeg = i := nI_clamp (by omega)
    refine lv_iload_n hx hb dX1_forgetAll_23 rfl (lv_at hl 1 rfl) ?_
    refine lv_bipush (v := 8) hx hb dX1_forgetAll_24 (by decide) ?_
    refine lv_icmp_ge (tgt := 42) hx hb dX1_forgetAll_26 (by decide) (fun c26 => ?_) (fun c26 => ?_)
    · exact absurd c26 (nI_ge hlt (by decide))
    · refine lv_aload_n hx hb dX1_forgetAll_29 rfl (lv_at hl 0 rfl) ?_
      refine va_get (D := (dC, dI)) (ci := 1) (v := .ref a2) (C := RX1) (T := TX1) (N := 8) hx hb hts iwsX1_forgetAll hown hK hP 0 rfl rfl 3 (by decide) (hts (.fieldLink RX1 13 "BranchTimesModel" "reportAt" "[I") (by decide +kernel)) (fun _ h9 => h9) rfl dX1_forgetAll_30 ?_
      refine lv_iload_n hx hb dX1_forgetAll_33 rfl (lv_at hl 1 rfl) ?_
      refine lv_iconst (v := -1) hx hb dX1_forgetAll_34 (by decide) ?_
      refine va_iast (D := (dC, dI)) hx hb hK hP hD hS 2 0 rfl rfl (vp_in_nI hlt (by decide)) dX1_forgetAll_35 (fun H locs hP hD hS => ?_)
      have hP : va_P (dC, dI) vwCl (wM h a1 a2 a3 a4 a5 a6 cA me tm hA (upd (fillI rA (-1 : Int32) i) (nI i).toNatClampNeg ((-1 : Int32))) lT jA pT cF) H := hP
      have hD : va_D A (wM h a1 a2 a3 a4 a5 a6 cA me tm hA (upd (fillI rA (-1 : Int32) i) (nI i).toNatClampNeg ((-1 : Int32))) lT jA pT cF) := hD
      have hP : va_P (dC, dI) vwCl (wM h a1 a2 a3 a4 a5 a6 cA me tm hA (fillI rA (-1 : Int32) (i + 1)) lT jA pT cF) H := by rw [show fillI rA (-1 : Int32) (i + 1) = upd (fillI rA (-1 : Int32) i) (nI i).toNatClampNeg ((-1 : Int32)) from by simp only [hcl, fillI]]; exact hP
      have hD : va_D A (wM h a1 a2 a3 a4 a5 a6 cA me tm hA (fillI rA (-1 : Int32) (i + 1)) lT jA pT cF) := D_same hD rfl
      refine lv_iinc (v := nI (i + 1)) (lv' := [(1, .int (nI (i + 1))), (0, .ref h)]) hx hb dX1_forgetAll_36 hl (k := 1) rfl (nI_1 _) (by decide) rfl (fun ls hl => ?_)
      refine lv_goto (tgt := 23) hx hb dX1_forgetAll_39 (by decide) ?_
      exact ih (i + 1) (by omega) _ _ ls (by exact hP) (by exact hD) hS (lv_sub hl [1, 0] rfl)
set_option maxHeartbeats 4000000 in
set_option maxRecDepth 100000 in
theorem lp_X1_forgetAll_44 {p : Program} {e : Env} {s : State} {m : MethodId} {args : Array Value} {below : List Frame} {meth : Method} {c : Code} {cells slots : Nat} {Q : State → Prop} {A : Nat → Prop} {H0 : Heap} (l : Launch) (dC : Nat → ClassId) (dI : Nat → Nat → Nat) (h a1 a2 a3 a4 a5 a6 : Nat) (cA : ClassId) (me tm : Int32) (hA rA lT jA pT cF : Nat → Int32) (S : CallFix p m c cX1_forgetAll 2 s args wsX1_forgetAll RX1) (hK : va_K (dC, dI) vwCl [(cA, .int)] s) (hAA : ∀ q, H0.size ≤ q → A q) (hcs : cells + 0 ≤ 0 ∧ slots + 0 ≤ 0) (k : ∀ (H : Heap) (locs : List Loc) (ls : Array Slot), va_P (dC, dI) vwCl (wM h a1 a2 a3 a4 a5 a6 cA me tm hA rA lT (fillI jA (-1 : Int32) 136) pT cF) H → va_D A (wM h a1 a2 a3 a4 a5 a6 cA me tm hA rA lT (fillI jA (-1 : Int32) 136) pT cF) → va_S A H0 H locs → lv_has ls 2 [(0, .ref h), (1, .int (nI 136))] → W p l e ({ frames := 0, cells := 0, slots := 0, locals := 0 }) s m args below meth c H locs cells slots Q (F0 m 64 ls [])) : ∀ (n i : Nat), i + n = 136 → ∀ (H : Heap) (locs : List Loc) (ls : Array Slot), va_P (dC, dI) vwCl (wM h a1 a2 a3 a4 a5 a6 cA me tm hA rA lT (fillI jA (-1 : Int32) i) pT cF) H → va_D A (wM h a1 a2 a3 a4 a5 a6 cA me tm hA rA lT (fillI jA (-1 : Int32) i) pT cF) → va_S A H0 H locs → lv_has ls 2 [(0, .ref h), (1, .int (nI i))] → W p l e ({ frames := 0, cells := 0, slots := 0, locals := 0 }) s m args below meth c H locs cells slots Q (F0 m 44 ls []) := by
  obtain ⟨hx, hb, hml, hown, hts⟩ := id S
  intro n
  induction n with
  | zero =>
    intro i hi H locs ls hP hD hS hl
    obtain rfl : i = 136 := by omega
    refine lv_iload_n hx hb dX1_forgetAll_44 rfl (lv_at hl 1 rfl) ?_
    refine lv_sipush (v := 136) hx hb dX1_forgetAll_45 (by decide) ?_
    refine lv_icmp_ge (tgt := 64) hx hb dX1_forgetAll_48 (by decide) (fun c48 => ?_) (fun c48 => ?_)
    · exact k _ _ ls hP hD hS (lv_sub hl [0, 1] rfl)
    · exact absurd c48 (by decide)
  | succ n ih =>
    intro i hi H locs ls hP hD hS hl
    have hlt : i < 136 := by omega
    have hcl : (nI i).toNatClampNeg = i := nI_clamp (by omega)
    refine lv_iload_n hx hb dX1_forgetAll_44 rfl (lv_at hl 1 rfl) ?_
    refine lv_sipush (v := 136) hx hb dX1_forgetAll_45 (by decide) ?_
    refine lv_icmp_ge (tgt := 64) hx hb dX1_forgetAll_48 (by decide) (fun c48 => ?_) (fun c48 => ?_)
    · exact absurd c48 (nI_ge hlt (by decide))
    · refine lv_aload_n hx hb dX1_forgetAll_51 rfl (lv_at hl 0 rfl) ?_
      refine va_get (D := (dC, dI)) (ci := 1) (v := .ref a4) (C := RX1) (T := TX1) (N := 8) hx hb hts iwsX1_forgetAll hown hK hP 0 rfl rfl 5 (by decide) (hts (.fieldLink RX1 19 "BranchTimesModel" "joinAt" "[I") (by decide +kernel)) (fun _ h9 => h9) rfl dX1_forgetAll_52 ?_
      refine lv_iload_n hx hb dX1_forgetAll_55 rfl (lv_at hl 1 rfl) ?_
      refine lv_iconst (v := -1) hx hb dX1_forgetAll_56 (by decide) ?_
      refine va_iast (D := (dC, dI)) hx hb hK hP hD hS 4 0 rfl rfl (vp_in_nI hlt (by decide)) dX1_forgetAll_57 (fun H locs hP hD hS => ?_)
      have hP : va_P (dC, dI) vwCl (wM h a1 a2 a3 a4 a5 a6 cA me tm hA rA lT (upd (fillI jA (-1 : Int32) i) (nI i).toNatClampNeg ((-1 : Int32))) pT cF) H := hP
      have hD : va_D A (wM h a1 a2 a3 a4 a5 a6 cA me tm hA rA lT (upd (fillI jA (-1 : Int32) i) (nI i).toNatClampNeg ((-1 : Int32))) pT cF) := hD
      have hP : va_P (dC, dI) vwCl (wM h a1 a2 a3 a4 a5 a6 cA me tm hA rA lT (fillI jA (-1 : Int32) (i + 1)) pT cF) H := by rw [show fillI jA (-1 : Int32) (i + 1) = upd (fillI jA (-1 : Int32) i) (nI i).toNatClampNeg ((-1 : Int32)) from by simp only [hcl, fillI]]; exact hP
      have hD : va_D A (wM h a1 a2 a3 a4 a5 a6 cA me tm hA rA lT (fillI jA (-1 : Int32) (i + 1)) pT cF) := D_same hD rfl
      refine lv_iinc (v := nI (i + 1)) (lv' := [(1, .int (nI (i + 1))), (0, .ref h)]) hx hb dX1_forgetAll_58 hl (k := 1) rfl (nI_1 _) (by decide) rfl (fun ls hl => ?_)
      refine lv_goto (tgt := 44) hx hb dX1_forgetAll_61 (by decide) ?_
      exact ih (i + 1) (by omega) _ _ ls (by exact hP) (by exact hD) hS (lv_sub hl [1, 0] rfl)
set_option maxHeartbeats 4000000 in
set_option maxRecDepth 100000 in
theorem lp_X1_forgetAll_66 {p : Program} {e : Env} {s : State} {m : MethodId} {args : Array Value} {below : List Frame} {meth : Method} {c : Code} {cells slots : Nat} {Q : State → Prop} {A : Nat → Prop} {H0 : Heap} (l : Launch) (dC : Nat → ClassId) (dI : Nat → Nat → Nat) (h a1 a2 a3 a4 a5 a6 : Nat) (cA : ClassId) (me tm : Int32) (hA rA lT jA pT cF : Nat → Int32) (S : CallFix p m c cX1_forgetAll 2 s args wsX1_forgetAll RX1) (hK : va_K (dC, dI) vwCl [(cA, .int)] s) (hAA : ∀ q, H0.size ≤ q → A q) (hcs : cells + 0 ≤ 0 ∧ slots + 0 ≤ 0) (k : ∀ (H : Heap) (locs : List Loc) (ls : Array Slot), va_P (dC, dI) vwCl (wM h a1 a2 a3 a4 a5 a6 cA me tm hA rA lT jA pT (fillI cF (-1 : Int32) 128)) H → va_D A (wM h a1 a2 a3 a4 a5 a6 cA me tm hA rA lT jA pT (fillI cF (-1 : Int32) 128)) → va_S A H0 H locs → lv_has ls 2 [(0, .ref h), (1, .int (nI 128))] → W p l e ({ frames := 0, cells := 0, slots := 0, locals := 0 }) s m args below meth c H locs cells slots Q (F0 m 86 ls [])) : ∀ (n i : Nat), i + n = 128 → ∀ (H : Heap) (locs : List Loc) (ls : Array Slot), va_P (dC, dI) vwCl (wM h a1 a2 a3 a4 a5 a6 cA me tm hA rA lT jA pT (fillI cF (-1 : Int32) i)) H → va_D A (wM h a1 a2 a3 a4 a5 a6 cA me tm hA rA lT jA pT (fillI cF (-1 : Int32) i)) → va_S A H0 H locs → lv_has ls 2 [(0, .ref h), (1, .int (nI i))] → W p l e ({ frames := 0, cells := 0, slots := 0, locals := 0 }) s m args below meth c H locs cells slots Q (F0 m 66 ls []) := by
  obtain ⟨hx, hb, hml, hown, hts⟩ := id S
  intro n
  induction n with
  | zero =>
    intro i hi H locs ls hP hD hS hl
    obtain rfl : i = 128 := by omega
    refine lv_iload_n hx hb dX1_forgetAll_66 rfl (lv_at hl 1 rfl) ?_
    refine lv_sipush (v := 128) hx hb dX1_forgetAll_67 (by decide) ?_
    refine lv_icmp_ge (tgt := 86) hx hb dX1_forgetAll_70 (by decide) (fun c70 => ?_) (fun c70 => ?_)
    · exact k _ _ ls hP hD hS (lv_sub hl [0, 1] rfl)
    · exact absurd c70 (by decide)
  | succ n ih =>
    intro i hi H locs ls hP hD hS hl
    have hlt : i < 128 := by omega
    have hcl : (nI i).toNatClampNeg = i := nI_clamp (by omega)
    refine lv_iload_n hx hb dX1_forgetAll_66 rfl (lv_at hl 1 rfl) ?_
    refine lv_sipush (v := 128) hx hb dX1_forgetAll_67 (by decide) ?_
    refine lv_icmp_ge (tgt := 86) hx hb dX1_forgetAll_70 (by decide) (fun c70 => ?_) (fun c70 => ?_)
    · exact absurd c70 (nI_ge hlt (by decide))
    · refine lv_aload_n hx hb dX1_forgetAll_73 rfl (lv_at hl 0 rfl) ?_
      refine va_get (D := (dC, dI)) (ci := 1) (v := .ref a6) (C := RX1) (T := TX1) (N := 8) hx hb hts iwsX1_forgetAll hown hK hP 0 rfl rfl 7 (by decide) (hts (.fieldLink RX1 25 "BranchTimesModel" "cutFrom" "[I") (by decide +kernel)) (fun _ h9 => h9) rfl dX1_forgetAll_74 ?_
      refine lv_iload_n hx hb dX1_forgetAll_77 rfl (lv_at hl 1 rfl) ?_
      refine lv_iconst (v := -1) hx hb dX1_forgetAll_78 (by decide) ?_
      refine va_iast (D := (dC, dI)) hx hb hK hP hD hS 6 0 rfl rfl (vp_in_nI hlt (by decide)) dX1_forgetAll_79 (fun H locs hP hD hS => ?_)
      have hP : va_P (dC, dI) vwCl (wM h a1 a2 a3 a4 a5 a6 cA me tm hA rA lT jA pT (upd (fillI cF (-1 : Int32) i) (nI i).toNatClampNeg ((-1 : Int32)))) H := hP
      have hD : va_D A (wM h a1 a2 a3 a4 a5 a6 cA me tm hA rA lT jA pT (upd (fillI cF (-1 : Int32) i) (nI i).toNatClampNeg ((-1 : Int32)))) := hD
      have hP : va_P (dC, dI) vwCl (wM h a1 a2 a3 a4 a5 a6 cA me tm hA rA lT jA pT (fillI cF (-1 : Int32) (i + 1))) H := by rw [show fillI cF (-1 : Int32) (i + 1) = upd (fillI cF (-1 : Int32) i) (nI i).toNatClampNeg ((-1 : Int32)) from by simp only [hcl, fillI]]; exact hP
      have hD : va_D A (wM h a1 a2 a3 a4 a5 a6 cA me tm hA rA lT jA pT (fillI cF (-1 : Int32) (i + 1))) := D_same hD rfl
      refine lv_iinc (v := nI (i + 1)) (lv' := [(1, .int (nI (i + 1))), (0, .ref h)]) hx hb dX1_forgetAll_80 hl (k := 1) rfl (nI_1 _) (by decide) rfl (fun ls hl => ?_)
      refine lv_goto (tgt := 66) hx hb dX1_forgetAll_83 (by decide) ?_
      exact ih (i + 1) (by omega) _ _ ls (by exact hP) (by exact hD) hS (lv_sub hl [1, 0] rfl)
set_option maxHeartbeats 4000000 in
set_option maxRecDepth 100000 in
theorem c_X1_forgetAll (l : Launch) (dC : Nat → ClassId) (dI : Nat → Nat → Nat) (h a1 a2 a3 a4 a5 a6 : Nat) (cA : ClassId) (me tm : Int32) (hA rA lT jA pT cF : Nat → Int32) (sz : Nat) : Met l yX1_forgetAll wsX1_forgetAll ({ frames := 0, cells := 0, slots := 0, locals := 0 }) (PW [.ref h] dC dI cA (wM h a1 a2 a3 a4 a5 a6 cA me tm hA rA lT jA pT cF) sz) (QWv dC dI (wM h a1 a2 a3 a4 a5 a6 cA me tm hA rA lT jA pT cF) (wM h a1 a2 a3 a4 a5 a6 cA me tm (fillI hA (-1 : Int32) 10) (fillI rA (-1 : Int32) 8) lT (fillI jA (-1 : Int32) 136) pT (fillI cF (-1 : Int32) 128)) sz) 0 0 (va_A (wM h a1 a2 a3 a4 a5 a6 cA me tm hA rA lT jA pT cF) sz) := by
  refine Met.ofW (cc := cX1_forgetAll) (maxL := 2) (ret := none) (by decide) rfl ?_
  intro p e s m args below meth c s₁ B hml hv
  obtain ⟨rfl, hsz, hP, hK, hD0⟩ := hv
  have hx := B.exec
  have hb := B.bytes
  have hr := B.returns
  have hts := atoms_spec (ws := wsX1_forgetAll) B.pre
  have hown : s.vm.findClass RX1 = some m.cls := findClass_of_methodNamed B.named
  have hlocks := B.notSynchronized
  have S : CallFix p m c cX1_forgetAll 2 s ([.ref h] : List Value).toArray wsX1_forgetAll RX1 := ⟨hx, hb, hml, hown, hts⟩
  subst hsz
  have hD := hD0.self (sz := s.heap.size)
  generalize hAe : va_A (wM h a1 a2 a3 a4 a5 a6 cA me tm hA rA lT jA pT cF) s.heap.size = A at hD ⊢
  have hAA : ∀ q : Nat, s.heap.size ≤ q → A q := fun q h => by rw [← hAe]; exact Or.inr h
  have hS : va_S A s.heap s.heap [] := va_S.rf
  have hQ9 := hAe
  have hl := lv_entry ([.ref h]) (n := 2) (Nat.le_of_ble_eq_true rfl)
  rw [lg_entry_eq]
  generalize (lg_sl ([.ref h]) ++ List.replicate (2 - (lg_sl ([.ref h])).length) Slot.unset).toArray = ls at hl ⊢
  have hl : lv_has ls 2 [(0, .ref h)] := hl
  refine lv_iconst (v := 0) hx hb dX1_forgetAll_0 (by decide) ?_
  refine lv_istore_n (lv' := [(1, .int ((0 : Int32))), (0, .ref h)]) hx hb dX1_forgetAll_1 rfl hl (by decide) rfl (fun ls hl => ?_)
  refine lp_X1_forgetAll_2 l dC dI h a1 a2 a3 a4 a5 a6 cA me tm hA rA lT jA pT cF S hK hAA ⟨Nat.le_of_ble_eq_true rfl, Nat.le_of_ble_eq_true rfl⟩ (fun H locs ls hP hD hS hl => ?_) 10 0 rfl _ _ ls hP hD hS (lv_sub hl [1, 0] rfl)
  refine lv_iconst (v := 0) hx hb dX1_forgetAll_21 (by decide) ?_
  refine lv_istore_n (lv' := [(1, .int ((0 : Int32))), (0, .ref h)]) hx hb dX1_forgetAll_22 rfl hl (by decide) rfl (fun ls hl => ?_)
  refine lp_X1_forgetAll_23 l dC dI h a1 a2 a3 a4 a5 a6 cA me tm (fillI hA (-1 : Int32) 10) rA lT jA pT cF S hK hAA ⟨Nat.le_of_ble_eq_true rfl, Nat.le_of_ble_eq_true rfl⟩ (fun H locs ls hP hD hS hl => ?_) 8 0 rfl _ _ ls hP hD hS (lv_sub hl [1, 0] rfl)
  refine lv_iconst (v := 0) hx hb dX1_forgetAll_42 (by decide) ?_
  refine lv_istore_n (lv' := [(1, .int ((0 : Int32))), (0, .ref h)]) hx hb dX1_forgetAll_43 rfl hl (by decide) rfl (fun ls hl => ?_)
  refine lp_X1_forgetAll_44 l dC dI h a1 a2 a3 a4 a5 a6 cA me tm (fillI hA (-1 : Int32) 10) (fillI rA (-1 : Int32) 8) lT jA pT cF S hK hAA ⟨Nat.le_of_ble_eq_true rfl, Nat.le_of_ble_eq_true rfl⟩ (fun H locs ls hP hD hS hl => ?_) 136 0 rfl _ _ ls hP hD hS (lv_sub hl [1, 0] rfl)
  refine lv_iconst (v := 0) hx hb dX1_forgetAll_64 (by decide) ?_
  refine lv_istore_n (lv' := [(1, .int ((0 : Int32))), (0, .ref h)]) hx hb dX1_forgetAll_65 rfl hl (by decide) rfl (fun ls hl => ?_)
  refine lp_X1_forgetAll_66 l dC dI h a1 a2 a3 a4 a5 a6 cA me tm (fillI hA (-1 : Int32) 10) (fillI rA (-1 : Int32) 8) lT (fillI jA (-1 : Int32) 136) pT cF S hK hAA ⟨Nat.le_of_ble_eq_true rfl, Nat.le_of_ble_eq_true rfl⟩ (fun H locs ls hP hD hS hl => ?_) 128 0 rfl _ _ ls hP hD hS (lv_sub hl [1, 0] rfl)
  have hP9 : va_P (dC, dI) vwCl (wM h a1 a2 a3 a4 a5 a6 cA me tm (fillI hA (-1 : Int32) 10) (fillI rA (-1 : Int32) 8) lT (fillI jA (-1 : Int32) 136) pT (fillI cF (-1 : Int32) 128)) H := by exact hP
  exact W.vret hx hb hr (fun t ht hW => ⟨⟨(), rfl, trivial, by dsimp only; rw [ht]; exact hP9⟩, by rw [hQ9]; exact hS.F ht⟩) hS.2.2 dX1_forgetAll_86
theorem hd_X1_forgetAll : yX1_forgetAll.cls = RX1 ∧ yX1_forgetAll.cls ≠ "java/lang/invoke/MethodHandle" ∧ yX1_forgetAll.cls ≠ "java/lang/invoke/VarHandle" ∧ (parseMethodDescriptor yX1_forgetAll.desc).map (fun d => d.parameters.length) = some 0 := by decide +kernel

theorem iwsX1_forget : ∀ w ∈ u_ws RX1 TX1 8, w ∈ wsX1_forget := fun _ h => List.mem_cons_of_mem _ (List.mem_append_right _ h)
set_option maxHeartbeats 4000000 in
set_option maxRecDepth 100000 in
theorem c_X1_forget (l : Launch) (dC : Nat → ClassId) (dI : Nat → Nat → Nat) (h a1 a2 a3 a4 a5 a6 : Nat) (cA : ClassId) (me tm : Int32) (hA rA lT jA pT cF : Nat → Int32) (sz : Nat) : Met l yX1_forget wsX1_forget ({ frames := 1, cells := 0, slots := 0, locals := 21 }) (PW [.ref h] dC dI cA (wM h a1 a2 a3 a4 a5 a6 cA me tm hA rA lT jA pT cF) sz) (QWv dC dI (wM h a1 a2 a3 a4 a5 a6 cA me tm hA rA lT jA pT cF) (wM h a1 a2 a3 a4 a5 a6 cA me tm (fillI hA (-1 : Int32) 10) (fillI rA (-1 : Int32) 8) lT (fillI jA (-1 : Int32) 136) pT (fillI cF (-1 : Int32) 128)) sz) 0 0 (va_A (wM h a1 a2 a3 a4 a5 a6 cA me tm hA rA lT jA pT cF) sz) := by
  refine Met.ofW (cc := cX1_forget) (maxL := 1) (ret := none) (by decide) rfl ?_
  intro p e s m args below meth c s₁ B hml hv
  obtain ⟨rfl, hsz, hP, hK, hD0⟩ := hv
  have hx := B.exec
  have hb := B.bytes
  have hr := B.returns
  have hts := atoms_spec (ws := wsX1_forget) B.pre
  have hown : s.vm.findClass RX1 = some m.cls := findClass_of_methodNamed B.named
  have hlocks := B.notSynchronized
  have S : CallFix p m c cX1_forget 1 s ([.ref h] : List Value).toArray wsX1_forget RX1 := ⟨hx, hb, hml, hown, hts⟩
  subst hsz
  have hD := hD0.self (sz := s.heap.size)
  generalize hAe : va_A (wM h a1 a2 a3 a4 a5 a6 cA me tm hA rA lT jA pT cF) s.heap.size = A at hD ⊢
  have hAA : ∀ q : Nat, s.heap.size ≤ q → A q := fun q h => by rw [← hAe]; exact Or.inr h
  have hS : va_S A s.heap s.heap [] := va_S.rf
  have hQ9 := hAe
  have hl := lv_entry ([.ref h]) (n := 1) (Nat.le_of_ble_eq_true rfl)
  rw [lg_entry_eq]
  generalize (lg_sl ([.ref h]) ++ List.replicate (1 - (lg_sl ([.ref h])).length) Slot.unset).toArray = ls at hl ⊢
  have hl : lv_has ls 1 [(0, .ref h)] := hl
  refine lv_aload_n hx hb dX1_forget_0 rfl (lv_at hl 0 rfl) ?_
  refine wr_Vv (As := []) (rest := []) (ci := 1) (qc := (RX1, TX1, 8)) (wr := []) (A0 := A) S (c_X1_forgetAll l dC dI h a1 a2 a3 a4 a5 a6 cA me tm hA rA lT jA pT cF _) gX1_forget_X1_forgetAll rfl ⟨rfl, rfl⟩ hd_X1_forgetAll ⟨Nat.le_of_ble_eq_true rfl, Nat.le_of_ble_eq_true rfl⟩ hK hP hD hS hAA [0, 1, 2, 3, 4, 5, 6] [] rfl rfl (by decide) (by decide) (by decide) rfl rfl rfl rfl hl.1 rfl (Nat.le_of_ble_eq_true rfl) dX1_forget_1 ⟨Nat.le_of_ble_eq_true rfl, Nat.le_of_ble_eq_true rfl⟩ (fun H locs hP hD hS => ?_)
  have hP : va_P (dC, dI) vwCl (wM h a1 a2 a3 a4 a5 a6 cA me tm (fillI hA (-1 : Int32) 10) (fillI rA (-1 : Int32) 8) lT (fillI jA (-1 : Int32) 136) pT (fillI cF (-1 : Int32) 128)) H := hP
  have hD : va_D A (wM h a1 a2 a3 a4 a5 a6 cA me tm (fillI hA (-1 : Int32) 10) (fillI rA (-1 : Int32) 8) lT (fillI jA (-1 : Int32) 136) pT (fillI cF (-1 : Int32) 128)) := hD
  have hP9 : va_P (dC, dI) vwCl (wM h a1 a2 a3 a4 a5 a6 cA me tm (fillI hA (-1 : Int32) 10) (fillI rA (-1 : Int32) 8) lT (fillI jA (-1 : Int32) 136) pT (fillI cF (-1 : Int32) 128)) H := by exact hP
  exact W.vret hx hb hr (fun t ht hW => ⟨⟨(), rfl, trivial, by dsimp only; rw [ht]; exact hP9⟩, by rw [hQ9]; exact hS.F ht⟩) hS.2.2 dX1_forget_4
theorem hd_X1_forget : yX1_forget.cls = RX1 ∧ yX1_forget.cls ≠ "java/lang/invoke/MethodHandle" ∧ yX1_forget.cls ≠ "java/lang/invoke/VarHandle" ∧ (parseMethodDescriptor yX1_forget.desc).map (fun d => d.parameters.length) = some 0 := by decide +kernel
end
section
theorem int_one {D : va_G} {cl : List vw_C} {c1 c2 : ClassId} {U : State} (hK : va_K D cl ([(c1, .int)] ++ [(c2, .int)]) U) : c2 = c1 := by
  have h1 : va_RA U c1 .int := (hK.2 0 _ rfl).2
  have h2 : va_RA U c2 .int := (hK.2 1 _ rfl).2
  exact Option.some.inj (h2.symm.trans h1)
theorem iwsX0_init : ∀ w ∈ u_ws RX0 TX0 7, w ∈ wsX0_init := fun _ h => List.mem_cons_of_mem _ (List.mem_append_right _ h)
set_option maxHeartbeats 1000000 in
set_option maxRecDepth 100000 in
theorem c_X0_init (l : Launch) (dC : Nat → ClassId) (dI : Nat → Nat → Nat) (h : Nat) (v0 v1 me : Int32) (sz : Nat) : Met l yX0_init wsX0_init ({ frames := 1, cells := 5, slots := 290, locals := 21 }) (va_Pc [.ref h, .int me] (fun U => U.heap.size = sz ∧ va_P (dC, dI) vwCl [(h, .inr (0, [.int v0, .int v1, .null, .null, .null, .null, .null]))] U.heap ∧ va_K (dC, dI) vwCl [] U ∧ va_D (fun _ => True) [(h, .inr (0, [.int v0, .int v1, .null, .null, .null, .null, .null]))])) (va_Qv (fun _ : Unit => True) (fun _ t => ∃ (a1 a2 a3 a4 a5 : Nat) (cA : ClassId), va_P (dC, dI) vwCl (wX h a1 a2 a3 a4 a5 cA (xMe0 me) 0 (fun _ => 0) (fun _ => 0) (fun _ => 0) (fun _ => 0) (fun _ => 0)) t.heap ∧ va_K (dC, dI) vwCl [(cA, .int)] t ∧ va_D (va_A [(h, .inr (0, [.int v0, .int v1, .null, .null, .null, .null, .null]))] sz) (wX h a1 a2 a3 a4 a5 cA (xMe0 me) 0 (fun _ => 0) (fun _ => 0) (fun _ => 0) (fun _ => 0) (fun _ => 0))) (va_A [(h, .inr (0, [.int v0, .int v1, .null, .null, .null, .null, .null]))] sz)) 5 290 (va_A [(h, .inr (0, [.int v0, .int v1, .null, .null, .null, .null, .null]))] sz) := by
  refine Met.ofW (cc := cX0_init) (maxL := 2) (ret := none) (by decide) rfl ?_
  intro p e s m args below meth c s₁ B hml hv
  obtain ⟨rfl, hsz, hP, hK, hD0⟩ := hv
  have hx := B.exec
  have hb := B.bytes
  have hr := B.returns
  have hts := atoms_spec (ws := wsX0_init) B.pre
  have hown : s.vm.findClass RX0 = some m.cls := findClass_of_methodNamed B.named
  have hlocks := B.notSynchronized
  have hin : meth.name = "<init>" := (name_of_methodNamed B.named B.method).1
  have S : CallFix p m c cX0_init 2 s ([.ref h, .int me] : List Value).toArray wsX0_init RX0 := ⟨hx, hb, hml, hown, hts⟩
  subst hsz
  have hD := hD0.self (sz := s.heap.size)
  generalize hAe : va_A [(h, .inr (0, [.int v0, .int v1, .null, .null, .null, .null, .null]))] s.heap.size = A at hD ⊢
  have hAA : ∀ q : Nat, s.heap.size ≤ q → A q := fun q h => by rw [← hAe]; exact Or.inr h
  have hS : va_S A s.heap s.heap [] := va_S.rf
  have hl := lv_entry ([.ref h, .int me]) (n := 2) (Nat.le_of_ble_eq_true rfl)
  rw [lg_entry_eq]
  generalize (lg_sl ([.ref h, .int me]) ++ List.replicate (2 - (lg_sl ([.ref h, .int me])).length) Slot.unset).toArray = ls at hl ⊢
  have hl : lv_has ls 2 [(0, .ref h), (1, .int me)] := hl
  refine lv_aload_n hx hb dX0_init_0 rfl (lv_at hl 0 rfl) ?_
  refine W.objInit hx hb hown (hts (.methodLink RX0 3 objectInit) (by decide +kernel)) (hts (.instanceMethod objectInit) (by decide +kernel)) (hts _ (List.mem_cons_of_mem _ (List.mem_append_left _ (List.mem_of_getElem? (i := 2) rfl)))) rfl (by rw [hml]; exact hl.1) rfl dX0_init_1 (Nat.le_of_ble_eq_true rfl) (Nat.le_of_ble_eq_true rfl) ?_
  refine W.eq (g2 := F0 m 4 ls []) rfl ?_
  refine lv_aload_n hx hb dX0_init_4 rfl (lv_at hl 0 rfl) ?_
  refine lv_bipush (v := 10) hx hb dX0_init_5 (by decide) ?_
  refine va_newa (D := (dC, dI)) (atype := .int) (ty := .int) (N' := 10) (a0 := (10, .inl (fun _ => 0))) hx hb (hts (.arrayClass .int) (by decide +kernel)) rfl hK hP hD hS hAA (fun _ => rfl) (by decide +kernel) (by decide +kernel) (by decide +kernel) (Nat.le_of_ble_eq_true rfl) (Nat.le_of_ble_eq_true rfl) dX0_init_7 (fun a1 cA H hK hP hD hS => ?_)
  have hK : va_K (dC, dI) vwCl [(cA, .int)] s := hK
  have hP : va_P (dC, dI) vwCl [(h, .inr (0, [.int v0, .int v1, .null, .null, .null, .null, .null])), (a1, .inl (cA, 10, .inl (fun _ => 0)))] H := hP
  have hD : va_D A [(h, .inr (0, [.int v0, .int v1, .null, .null, .null, .null, .null])), (a1, .inl (cA, 10, .inl (fun _ => 0)))] := hD
  refine va_putF (D := (dC, dI)) (ci := 0) (v := .ref a1) (ty := .array .int) (C := RX0) (T := TX0) (N := 7) hx hb hts iwsX0_init tyX0 tyX0_ok nmX0 hown hK hP hD hS 0 rfl rfl 2 (by decide) (hts (.fieldLink RX0 9 "BranchTimes" "neighbourTill" "[I") (by decide +kernel)) (fun _ h9 => h9) rfl hin rfl (by decide +kernel) rfl rfl (Nat.le_of_ble_eq_true rfl) dX0_init_9 (fun H locs hP hD hS => ?_)
  have hP : va_P (dC, dI) vwCl [(h, .inr (0, [.int v0, .int v1, .ref a1, .null, .null, .null, .null])), (a1, .inl (cA, 10, .inl (fun _ => 0)))] H := hP
  have hD : va_D A [(h, .inr (0, [.int v0, .int v1, .ref a1, .null, .null, .null, .null])), (a1, .inl (cA, 10, .inl (fun _ => 0)))] := hD
  refine lv_aload_n hx hb dX0_init_12 rfl (lv_at hl 0 rfl) ?_
  refine lv_bipush (v := 8) hx hb dX0_init_13 (by decide) ?_
  refine va_newa (D := (dC, dI)) (atype := .int) (ty := .int) (N' := 8) (a0 := (8, .inl (fun _ => 0))) hx hb (hts (.arrayClass .int) (by decide +kernel)) rfl hK hP hD hS hAA (fun _ => rfl) (by decide +kernel) (by decide +kernel) (by decide +kernel) (Nat.le_of_ble_eq_true rfl) (Nat.le_of_ble_eq_true rfl) dX0_init_15 (fun a2 cB H hK hP hD hS => ?_)
  have hcc : cA = cB := (int_one hK).symm
  subst hcc
  have hK : va_K (dC, dI) vwCl [(cA, .int)] s := hK.sub [0] rfl
  have hP : va_P (dC, dI) vwCl [(h, .inr (0, [.int v0, .int v1, .ref a1, .null, .null, .null, .null])), (a1, .inl (cA, 10, .inl (fun _ => 0))), (a2, .inl (cA, 8, .inl (fun _ => 0)))] H := hP
  have hD : va_D A [(h, .inr (0, [.int v0, .int v1, .ref a1, .null, .null, .null, .null])), (a1, .inl (cA, 10, .inl (fun _ => 0))), (a2, .inl (cA, 8, .inl (fun _ => 0)))] := hD
  refine va_putF (D := (dC, dI)) (ci := 0) (v := .ref a2) (ty := .array .int) (C := RX0) (T := TX0) (N := 7) hx hb hts iwsX0_init tyX0 tyX0_ok nmX0 hown hK hP hD hS 0 rfl rfl 3 (by decide) (hts (.fieldLink RX0 13 "BranchTimes" "membersTill" "[I") (by decide +kernel)) (fun _ h9 => h9) rfl hin rfl (by decide +kernel) rfl rfl (Nat.le_of_ble_eq_true rfl) dX0_init_17 (fun H locs hP hD hS => ?_)
  have hP : va_P (dC, dI) vwCl [(h, .inr (0, [.int v0, .int v1, .ref a1, .ref a2, .null, .null, .null])), (a1, .inl (cA, 10, .inl (fun _ => 0))), (a2, .inl (cA, 8, .inl (fun _ => 0)))] H := hP
  have hD : va_D A [(h, .inr (0, [.int v0, .int v1, .ref a1, .ref a2, .null, .null, .null])), (a1, .inl (cA, 10, .inl (fun _ => 0))), (a2, .inl (cA, 8, .inl (fun _ => 0)))] := hD
  refine lv_aload_n hx hb dX0_init_20 rfl (lv_at hl 0 rfl) ?_
  refine lv_sipush (v := 136) hx hb dX0_init_21 (by decide) ?_
  refine va_newa (D := (dC, dI)) (atype := .int) (ty := .int) (N' := 136) (a0 := (136, .inl (fun _ => 0))) hx hb (hts (.arrayClass .int) (by decide +kernel)) rfl hK hP hD hS hAA (fun _ => rfl) (by decide +kernel) (by decide +kernel) (by decide +kernel) (Nat.le_of_ble_eq_true rfl) (Nat.le_of_ble_eq_true rfl) dX0_init_24 (fun a3 cB H hK hP hD hS => ?_)
  have hcc : cA = cB := (int_one hK).symm
  subst hcc
  have hK : va_K (dC, dI) vwCl [(cA, .int)] s := hK.sub [0] rfl
  have hP : va_P (dC, dI) vwCl [(h, .inr (0, [.int v0, .int v1, .ref a1, .ref a2, .null, .null, .null])), (a1, .inl (cA, 10, .inl (fun _ => 0))), (a2, .inl (cA, 8, .inl (fun _ => 0))), (a3, .inl (cA, 136, .inl (fun _ => 0)))] H := hP
  have hD : va_D A [(h, .inr (0, [.int v0, .int v1, .ref a1, .ref a2, .null, .null, .null])), (a1, .inl (cA, 10, .inl (fun _ => 0))), (a2, .inl (cA, 8, .inl (fun _ => 0))), (a3, .inl (cA, 136, .inl (fun _ => 0)))] := hD
  refine va_putF (D := (dC, dI)) (ci := 0) (v := .ref a3) (ty := .array .int) (C := RX0) (T := TX0) (N := 7) hx hb hts iwsX0_init tyX0 tyX0_ok nmX0 hown hK hP hD hS 0 rfl rfl 4 (by decide) (hts (.fieldLink RX0 16 "BranchTimes" "joinedTill" "[I") (by decide +kernel)) (fun _ h9 => h9) rfl hin rfl (by decide +kernel) rfl rfl (Nat.le_of_ble_eq_true rfl) dX0_init_26 (fun H locs hP hD hS => ?_)
  have hP : va_P (dC, dI) vwCl [(h, .inr (0, [.int v0, .int v1, .ref a1, .ref a2, .ref a3, .null, .null])), (a1, .inl (cA, 10, .inl (fun _ => 0))), (a2, .inl (cA, 8, .inl (fun _ => 0))), (a3, .inl (cA, 136, .inl (fun _ => 0)))] H := hP
  have hD : va_D A [(h, .inr (0, [.int v0, .int v1, .ref a1, .ref a2, .ref a3, .null, .null])), (a1, .inl (cA, 10, .inl (fun _ => 0))), (a2, .inl (cA, 8, .inl (fun _ => 0))), (a3, .inl (cA, 136, .inl (fun _ => 0)))] := hD
  refine lv_aload_n hx hb dX0_init_29 rfl (lv_at hl 0 rfl) ?_
  refine lv_bipush (v := 8) hx hb dX0_init_30 (by decide) ?_
  refine va_newa (D := (dC, dI)) (atype := .int) (ty := .int) (N' := 8) (a0 := (8, .inl (fun _ => 0))) hx hb (hts (.arrayClass .int) (by decide +kernel)) rfl hK hP hD hS hAA (fun _ => rfl) (by decide +kernel) (by decide +kernel) (by decide +kernel) (Nat.le_of_ble_eq_true rfl) (Nat.le_of_ble_eq_true rfl) dX0_init_32 (fun a4 cB H hK hP hD hS => ?_)
  have hcc : cA = cB := (int_one hK).symm
  subst hcc
  have hK : va_K (dC, dI) vwCl [(cA, .int)] s := hK.sub [0] rfl
  have hP : va_P (dC, dI) vwCl [(h, .inr (0, [.int v0, .int v1, .ref a1, .ref a2, .ref a3, .null, .null])), (a1, .inl (cA, 10, .inl (fun _ => 0))), (a2, .inl (cA, 8, .inl (fun _ => 0))), (a3, .inl (cA, 136, .inl (fun _ => 0))), (a4, .inl (cA, 8, .inl (fun _ => 0)))] H := hP
  have hD : va_D A [(h, .inr (0, [.int v0, .int v1, .ref a1, .ref a2, .ref a3, .null, .null])), (a1, .inl (cA, 10, .inl (fun _ => 0))), (a2, .inl (cA, 8, .inl (fun _ => 0))), (a3, .inl (cA, 136, .inl (fun _ => 0))), (a4, .inl (cA, 8, .inl (fun _ => 0)))] := hD
  refine va_putF (D := (dC, dI)) (ci := 0) (v := .ref a4) (ty := .array .int) (C := RX0) (T := TX0) (N := 7) hx hb hts iwsX0_init tyX0 tyX0_ok nmX0 hown hK hP hD hS 0 rfl rfl 5 (by decide) (hts (.fieldLink RX0 19 "BranchTimes" "told" "[I") (by decide +kernel)) (fun _ h9 => h9) rfl hin rfl (by decide +kernel) rfl rfl (Nat.le_of_ble_eq_true rfl) dX0_init_34 (fun H locs hP hD hS => ?_)
  have hP : va_P (dC, dI) vwCl [(h, .inr (0, [.int v0, .int v1, .ref a1, .ref a2, .ref a3, .ref a4, .null])), (a1, .inl (cA, 10, .inl (fun _ => 0))), (a2, .inl (cA, 8, .inl (fun _ => 0))), (a3, .inl (cA, 136, .inl (fun _ => 0))), (a4, .inl (cA, 8, .inl (fun _ => 0)))] H := hP
  have hD : va_D A [(h, .inr (0, [.int v0, .int v1, .ref a1, .ref a2, .ref a3, .ref a4, .null])), (a1, .inl (cA, 10, .inl (fun _ => 0))), (a2, .inl (cA, 8, .inl (fun _ => 0))), (a3, .inl (cA, 136, .inl (fun _ => 0))), (a4, .inl (cA, 8, .inl (fun _ => 0)))] := hD
  refine lv_aload_n hx hb dX0_init_37 rfl (lv_at hl 0 rfl) ?_
  refine lv_sipush (v := 128) hx hb dX0_init_38 (by decide) ?_
  refine va_newa (D := (dC, dI)) (atype := .int) (ty := .int) (N' := 128) (a0 := (128, .inl (fun _ => 0))) hx hb (hts (.arrayClass .int) (by decide +kernel)) rfl hK hP hD hS hAA (fun _ => rfl) (by decide +kernel) (by decide +kernel) (by decide +kernel) (Nat.le_of_ble_eq_true rfl) (Nat.le_of_ble_eq_true rfl) dX0_init_41 (fun a5 cB H hK hP hD hS => ?_)
  have hcc : cA = cB := (int_one hK).symm
  subst hcc
  have hK : va_K (dC, dI) vwCl [(cA, .int)] s := hK.sub [0] rfl
  have hP : va_P (dC, dI) vwCl [(h, .inr (0, [.int v0, .int v1, .ref a1, .ref a2, .ref a3, .ref a4, .null])), (a1, .inl (cA, 10, .inl (fun _ => 0))), (a2, .inl (cA, 8, .inl (fun _ => 0))), (a3, .inl (cA, 136, .inl (fun _ => 0))), (a4, .inl (cA, 8, .inl (fun _ => 0))), (a5, .inl (cA, 128, .inl (fun _ => 0)))] H := hP
  have hD : va_D A [(h, .inr (0, [.int v0, .int v1, .ref a1, .ref a2, .ref a3, .ref a4, .null])), (a1, .inl (cA, 10, .inl (fun _ => 0))), (a2, .inl (cA, 8, .inl (fun _ => 0))), (a3, .inl (cA, 136, .inl (fun _ => 0))), (a4, .inl (cA, 8, .inl (fun _ => 0))), (a5, .inl (cA, 128, .inl (fun _ => 0)))] := hD
  refine va_putF (D := (dC, dI)) (ci := 0) (v := .ref a5) (ty := .array .int) (C := RX0) (T := TX0) (N := 7) hx hb hts iwsX0_init tyX0 tyX0_ok nmX0 hown hK hP hD hS 0 rfl rfl 6 (by decide) (hts (.fieldLink RX0 22 "BranchTimes" "cutFrom" "[I") (by decide +kernel)) (fun _ h9 => h9) rfl hin rfl (by decide +kernel) rfl rfl (Nat.le_of_ble_eq_true rfl) dX0_init_43 (fun H locs hP hD hS => ?_)
  have hP : va_P (dC, dI) vwCl [(h, .inr (0, [.int v0, .int v1, .ref a1, .ref a2, .ref a3, .ref a4, .ref a5])), (a1, .inl (cA, 10, .inl (fun _ => 0))), (a2, .inl (cA, 8, .inl (fun _ => 0))), (a3, .inl (cA, 136, .inl (fun _ => 0))), (a4, .inl (cA, 8, .inl (fun _ => 0))), (a5, .inl (cA, 128, .inl (fun _ => 0)))] H := hP
  have hD : va_D A [(h, .inr (0, [.int v0, .int v1, .ref a1, .ref a2, .ref a3, .ref a4, .ref a5])), (a1, .inl (cA, 10, .inl (fun _ => 0))), (a2, .inl (cA, 8, .inl (fun _ => 0))), (a3, .inl (cA, 136, .inl (fun _ => 0))), (a4, .inl (cA, 8, .inl (fun _ => 0))), (a5, .inl (cA, 128, .inl (fun _ => 0)))] := hD
  refine lv_aload_n hx hb dX0_init_46 rfl (lv_at hl 0 rfl) ?_
  refine lv_iconst (v := 0) hx hb dX0_init_47 (by decide) ?_
  refine lv_bipush (v := 9) hx hb dX0_init_48 (by decide) ?_
  refine lv_iload_n hx hb dX0_init_50 rfl (lv_at hl 1 rfl) ?_
  refine va_mmin hx hb (by rw [hml]; exact hl.1.symm) hown (hts (.methodLink RX0 25 Lib.Math.min.name) (by decide +kernel)) (hts (.static Lib.Math.min.name) (by decide +kernel)) (hts (.initialized "java/lang/Math") (by decide +kernel)) (hts (.code Lib.Math.min.name Lib.Math.min.code 2 (some .int)) (by decide +kernel)) (Nat.le_of_ble_eq_true rfl) (Nat.le_of_ble_eq_true rfl) (Nat.le_of_ble_eq_true rfl) (Nat.le_of_ble_eq_true rfl) dX0_init_51 ?_
  refine lv_top (x' := xMin 9 me) rfl ?_
  refine va_mmax hx hb (by rw [hml]; exact hl.1.symm) hown (hts (.methodLink RX0 31 Lib.Math.max.name) (by decide +kernel)) (hts (.static Lib.Math.max.name) (by decide +kernel)) (hts (.initialized "java/lang/Math") (by decide +kernel)) (hts (.code Lib.Math.max.name Lib.Math.max.code 2 (some .int)) (by decide +kernel)) (Nat.le_of_ble_eq_true rfl) (Nat.le_of_ble_eq_true rfl) (Nat.le_of_ble_eq_true rfl) (Nat.le_of_ble_eq_true rfl) dX0_init_54 ?_
  refine lv_top (x' := xMe0 me) rfl ?_
  refine va_putF (D := (dC, dI)) (ci := 0) (v := .int (xMe0 me)) (ty := .int) (C := RX0) (T := TX0) (N := 7) hx hb hts iwsX0_init tyX0 tyX0_ok nmX0 hown hK hP hD hS 0 rfl rfl 0 (by decide) (hts (.fieldLink RX0 34 "BranchTimes" "me" "I") (by decide +kernel)) (fun _ h9 => h9) rfl hin rfl (by decide +kernel) rfl rfl (Nat.le_of_ble_eq_true rfl) dX0_init_57 (fun H locs hP hD hS => ?_)
  have hP : va_P (dC, dI) vwCl [(h, .inr (0, [.int (xMe0 me), .int v1, .ref a1, .ref a2, .ref a3, .ref a4, .ref a5])), (a1, .inl (cA, 10, .inl (fun _ => 0))), (a2, .inl (cA, 8, .inl (fun _ => 0))), (a3, .inl (cA, 136, .inl (fun _ => 0))), (a4, .inl (cA, 8, .inl (fun _ => 0))), (a5, .inl (cA, 128, .inl (fun _ => 0)))] H := hP
  have hD : va_D A [(h, .inr (0, [.int (xMe0 me), .int v1, .ref a1, .ref a2, .ref a3, .ref a4, .ref a5])), (a1, .inl (cA, 10, .inl (fun _ => 0))), (a2, .inl (cA, 8, .inl (fun _ => 0))), (a3, .inl (cA, 136, .inl (fun _ => 0))), (a4, .inl (cA, 8, .inl (fun _ => 0))), (a5, .inl (cA, 128, .inl (fun _ => 0)))] := hD
  refine lv_aload_n hx hb dX0_init_60 rfl (lv_at hl 0 rfl) ?_
  refine lv_iconst (v := 0) hx hb dX0_init_61 (by decide) ?_
  refine va_put (D := (dC, dI)) (ci := 0) (v := .int 0) (ty := .int) (C := RX0) (T := TX0) (N := 7) hx hb hts iwsX0_init tyX0 tyX0_ok nmX0 hown hK hP hD hS 0 rfl rfl 1 (by decide) (hts (.fieldLink RX0 38 "BranchTimes" "time" "I") (by decide +kernel)) (fun _ h9 => h9) rfl (by decide +kernel) rfl rfl (Nat.le_of_ble_eq_true rfl) dX0_init_62 (fun H locs hP hD hS => ?_)
  have hP9 : va_P (dC, dI) vwCl (wX h a1 a2 a3 a4 a5 cA (xMe0 me) 0 (fun _ => 0) (fun _ => 0) (fun _ => 0) (fun _ => 0) (fun _ => 0)) H := hP
  have hD9 : va_D A (wX h a1 a2 a3 a4 a5 cA (xMe0 me) 0 (fun _ => 0) (fun _ => 0) (fun _ => 0) (fun _ => 0) (fun _ => 0)) := hD
  refine W.widen (k := 5) (n := 290) (Nat.le_of_ble_eq_true rfl) (Nat.le_of_ble_eq_true rfl) ?_
  exact W.vret hx hb hr (fun t ht hW => ⟨⟨(), rfl, trivial, a1, a2, a3, a4, a5, _, by rw [ht]; exact hP9, va_K.moved hW.alike hK, hD9⟩, hS.F ht⟩) hS.2.2 dX0_init_65
theorem iwsX1_init : ∀ w ∈ u_ws RX1 TX1 8, w ∈ wsX1_init := fun _ h => List.mem_cons_of_mem _ (List.mem_append_right _ h)
set_option maxHeartbeats 1000000 in
set_option maxRecDepth 100000 in
theorem c_X1_init (l : Launch) (dC : Nat → ClassId) (dI : Nat → Nat → Nat) (h : Nat) (v0 v1 me : Int32) (sz : Nat) : Met l yX1_init wsX1_init ({ frames := 1, cells := 6, slots := 426, locals := 21 }) (va_Pc [.ref h, .int me] (fun U => U.heap.size = sz ∧ va_P (dC, dI) vwCl [(h, .inr (1, [.int v0, .int v1, .null, .null, .null, .null, .null, .null]))] U.heap ∧ va_K (dC, dI) vwCl [] U ∧ va_D (fun _ => True) [(h, .inr (1, [.int v0, .int v1, .null, .null, .null, .null, .null, .null]))])) (va_Qv (fun _ : Unit => True) (fun _ t => ∃ (a1 a2 a3 a4 a5 a6 : Nat) (cA : ClassId), va_P (dC, dI) vwCl (wM h a1 a2 a3 a4 a5 a6 cA (mMe0 me) v1 (fillI (fun _ => 0) (-1 : Int32) 10) (fillI (fun _ => 0) (-1 : Int32) 8) (fun _ => 0) (fillI (fun _ => 0) (-1 : Int32) 136) (fun _ => 0) (fillI (fun _ => 0) (-1 : Int32) 128)) t.heap ∧ va_K (dC, dI) vwCl [(cA, .int)] t ∧ va_D (va_A [(h, .inr (1, [.int v0, .int v1, .null, .null, .null, .null, .null, .null]))] sz) (wM h a1 a2 a3 a4 a5 a6 cA (mMe0 me) v1 (fillI (fun _ => 0) (-1 : Int32) 10) (fillI (fun _ => 0) (-1 : Int32) 8) (fun _ => 0) (fillI (fun _ => 0) (-1 : Int32) 136) (fun _ => 0) (fillI (fun _ => 0) (-1 : Int32) 128))) (va_A [(h, .inr (1, [.int v0, .int v1, .null, .null, .null, .null, .null, .null]))] sz)) 6 426 (va_A [(h, .inr (1, [.int v0, .int v1, .null, .null, .null, .null, .null, .null]))] sz) := by
  refine Met.ofW (cc := cX1_init) (maxL := 2) (ret := none) (by decide) rfl ?_
  intro p e s m args below meth c s₁ B hml hv
  obtain ⟨rfl, hsz, hP, hK, hD0⟩ := hv
  have hx := B.exec
  have hb := B.bytes
  have hr := B.returns
  have hts := atoms_spec (ws := wsX1_init) B.pre
  have hown : s.vm.findClass RX1 = some m.cls := findClass_of_methodNamed B.named
  have hlocks := B.notSynchronized
  have hin : meth.name = "<init>" := (name_of_methodNamed B.named B.method).1
  have S : CallFix p m c cX1_init 2 s ([.ref h, .int me] : List Value).toArray wsX1_init RX1 := ⟨hx, hb, hml, hown, hts⟩
  subst hsz
  have hD := hD0.self (sz := s.heap.size)
  generalize hAe : va_A [(h, .inr (1, [.int v0, .int v1, .null, .null, .null, .null, .null, .null]))] s.heap.size = A at hD ⊢
  have hAA : ∀ q : Nat, s.heap.size ≤ q → A q := fun q h => by rw [← hAe]; exact Or.inr h
  have hS : va_S A s.heap s.heap [] := va_S.rf
  have hl := lv_entry ([.ref h, .int me]) (n := 2) (Nat.le_of_ble_eq_true rfl)
  rw [lg_entry_eq]
  generalize (lg_sl ([.ref h, .int me]) ++ List.replicate (2 - (lg_sl ([.ref h, .int me])).length) Slot.unset).toArray = ls at hl ⊢
  have hl : lv_has ls 2 [(0, .ref h), (1, .int me)] := hl
  refine lv_aload_n hx hb dX1_init_0 rfl (lv_at hl 0 rfl) ?_
  refine W.objInit hx hb hown (hts (.methodLink RX1 1 objectInit) (by decide +kernel)) (hts (.instanceMethod objectInit) (by decide +kernel)) (hts _ (List.mem_cons_of_mem _ (List.mem_append_left _ (List.mem_of_getElem? (i := 2) rfl)))) rfl (by rw [hml]; exact hl.1) rfl dX1_init_1 (Nat.le_of_ble_eq_true rfl) (Nat.le_of_ble_eq_true rfl) ?_
  refine W.eq (g2 := F0 m 4 ls []) rfl ?_
  refine lv_aload_n hx hb dX1_init_4 rfl (lv_at hl 0 rfl) ?_
  refine lv_bipush (v := 10) hx hb dX1_init_5 (by decide) ?_
  refine va_newa (D := (dC, dI)) (atype := .int) (ty := .int) (N' := 10) (a0 := (10, .inl (fun _ => 0))) hx hb (hts (.arrayClass .int) (by decide +kernel)) rfl hK hP hD hS hAA (fun _ => rfl) (by decide +kernel) (by decide +kernel) (by decide +kernel) (Nat.le_of_ble_eq_true rfl) (Nat.le_of_ble_eq_true rfl) dX1_init_7 (fun a1 cA H hK hP hD hS => ?_)
  have hK : va_K (dC, dI) vwCl [(cA, .int)] s := hK
  have hP : va_P (dC, dI) vwCl [(h, .inr (1, [.int v0, .int v1, .null, .null, .null, .null, .null, .null])), (a1, .inl (cA, 10, .inl (fun _ => 0)))] H := hP
  have hD : va_D A [(h, .inr (1, [.int v0, .int v1, .null, .null, .null, .null, .null, .null])), (a1, .inl (cA, 10, .inl (fun _ => 0)))] := hD
  refine va_putF (D := (dC, dI)) (ci := 1) (v := .ref a1) (ty := .array .int) (C := RX1) (T := TX1) (N := 8) hx hb hts iwsX1_init tyX1 tyX1_ok nmX1 hown hK hP hD hS 0 rfl rfl 2 (by decide) (hts (.fieldLink RX1 7 "BranchTimesModel" "helloAt" "[I") (by decide +kernel)) (fun _ h9 => h9) rfl hin rfl (by decide +kernel) rfl rfl (Nat.le_of_ble_eq_true rfl) dX1_init_9 (fun H locs hP hD hS => ?_)
  have hP : va_P (dC, dI) vwCl [(h, .inr (1, [.int v0, .int v1, .ref a1, .null, .null, .null, .null, .null])), (a1, .inl (cA, 10, .inl (fun _ => 0)))] H := hP
  have hD : va_D A [(h, .inr (1, [.int v0, .int v1, .ref a1, .null, .null, .null, .null, .null])), (a1, .inl (cA, 10, .inl (fun _ => 0)))] := hD
  refine lv_aload_n hx hb dX1_init_12 rfl (lv_at hl 0 rfl) ?_
  refine lv_bipush (v := 8) hx hb dX1_init_13 (by decide) ?_
  refine va_newa (D := (dC, dI)) (atype := .int) (ty := .int) (N' := 8) (a0 := (8, .inl (fun _ => 0))) hx hb (hts (.arrayClass .int) (by decide +kernel)) rfl hK hP hD hS hAA (fun _ => rfl) (by decide +kernel) (by decide +kernel) (by decide +kernel) (Nat.le_of_ble_eq_true rfl) (Nat.le_of_ble_eq_true rfl) dX1_init_15 (fun a2 cB H hK hP hD hS => ?_)
  have hcc : cA = cB := (int_one hK).symm
  subst hcc
  have hK : va_K (dC, dI) vwCl [(cA, .int)] s := hK.sub [0] rfl
  have hP : va_P (dC, dI) vwCl [(h, .inr (1, [.int v0, .int v1, .ref a1, .null, .null, .null, .null, .null])), (a1, .inl (cA, 10, .inl (fun _ => 0))), (a2, .inl (cA, 8, .inl (fun _ => 0)))] H := hP
  have hD : va_D A [(h, .inr (1, [.int v0, .int v1, .ref a1, .null, .null, .null, .null, .null])), (a1, .inl (cA, 10, .inl (fun _ => 0))), (a2, .inl (cA, 8, .inl (fun _ => 0)))] := hD
  refine va_putF (D := (dC, dI)) (ci := 1) (v := .ref a2) (ty := .array .int) (C := RX1) (T := TX1) (N := 8) hx hb hts iwsX1_init tyX1 tyX1_ok nmX1 hown hK hP hD hS 0 rfl rfl 3 (by decide) (hts (.fieldLink RX1 13 "BranchTimesModel" "reportAt" "[I") (by decide +kernel)) (fun _ h9 => h9) rfl hin rfl (by decide +kernel) rfl rfl (Nat.le_of_ble_eq_true rfl) dX1_init_17 (fun H locs hP hD hS => ?_)
  have hP : va_P (dC, dI) vwCl [(h, .inr (1, [.int v0, .int v1, .ref a1, .ref a2, .null, .null, .null, .null])), (a1, .inl (cA, 10, .inl (fun _ => 0))), (a2, .inl (cA, 8, .inl (fun _ => 0)))] H := hP
  have hD : va_D A [(h, .inr (1, [.int v0, .int v1, .ref a1, .ref a2, .null, .null, .null, .null])), (a1, .inl (cA, 10, .inl (fun _ => 0))), (a2, .inl (cA, 8, .inl (fun _ => 0)))] := hD
  refine lv_aload_n hx hb dX1_init_20 rfl (lv_at hl 0 rfl) ?_
  refine lv_bipush (v := 8) hx hb dX1_init_21 (by decide) ?_
  refine va_newa (D := (dC, dI)) (atype := .int) (ty := .int) (N' := 8) (a0 := (8, .inl (fun _ => 0))) hx hb (hts (.arrayClass .int) (by decide +kernel)) rfl hK hP hD hS hAA (fun _ => rfl) (by decide +kernel) (by decide +kernel) (by decide +kernel) (Nat.le_of_ble_eq_true rfl) (Nat.le_of_ble_eq_true rfl) dX1_init_23 (fun a3 cB H hK hP hD hS => ?_)
  have hcc : cA = cB := (int_one hK).symm
  subst hcc
  have hK : va_K (dC, dI) vwCl [(cA, .int)] s := hK.sub [0] rfl
  have hP : va_P (dC, dI) vwCl [(h, .inr (1, [.int v0, .int v1, .ref a1, .ref a2, .null, .null, .null, .null])), (a1, .inl (cA, 10, .inl (fun _ => 0))), (a2, .inl (cA, 8, .inl (fun _ => 0))), (a3, .inl (cA, 8, .inl (fun _ => 0)))] H := hP
  have hD : va_D A [(h, .inr (1, [.int v0, .int v1, .ref a1, .ref a2, .null, .null, .null, .null])), (a1, .inl (cA, 10, .inl (fun _ => 0))), (a2, .inl (cA, 8, .inl (fun _ => 0))), (a3, .inl (cA, 8, .inl (fun _ => 0)))] := hD
  refine va_putF (D := (dC, dI)) (ci := 1) (v := .ref a3) (ty := .array .int) (C := RX1) (T := TX1) (N := 8) hx hb hts iwsX1_init tyX1 tyX1_ok nmX1 hown hK hP hD hS 0 rfl rfl 4 (by decide) (hts (.fieldLink RX1 16 "BranchTimesModel" "leftTill" "[I") (by decide +kernel)) (fun _ h9 => h9) rfl hin rfl (by decide +kernel) rfl rfl (Nat.le_of_ble_eq_true rfl) dX1_init_25 (fun H locs hP hD hS => ?_)
  have hP : va_P (dC, dI) vwCl [(h, .inr (1, [.int v0, .int v1, .ref a1, .ref a2, .ref a3, .null, .null, .null])), (a1, .inl (cA, 10, .inl (fun _ => 0))), (a2, .inl (cA, 8, .inl (fun _ => 0))), (a3, .inl (cA, 8, .inl (fun _ => 0)))] H := hP
  have hD : va_D A [(h, .inr (1, [.int v0, .int v1, .ref a1, .ref a2, .ref a3, .null, .null, .null])), (a1, .inl (cA, 10, .inl (fun _ => 0))), (a2, .inl (cA, 8, .inl (fun _ => 0))), (a3, .inl (cA, 8, .inl (fun _ => 0)))] := hD
  refine lv_aload_n hx hb dX1_init_28 rfl (lv_at hl 0 rfl) ?_
  refine lv_sipush (v := 136) hx hb dX1_init_29 (by decide) ?_
  refine va_newa (D := (dC, dI)) (atype := .int) (ty := .int) (N' := 136) (a0 := (136, .inl (fun _ => 0))) hx hb (hts (.arrayClass .int) (by decide +kernel)) rfl hK hP hD hS hAA (fun _ => rfl) (by decide +kernel) (by decide +kernel) (by decide +kernel) (Nat.le_of_ble_eq_true rfl) (Nat.le_of_ble_eq_true rfl) dX1_init_32 (fun a4 cB H hK hP hD hS => ?_)
  have hcc : cA = cB := (int_one hK).symm
  subst hcc
  have hK : va_K (dC, dI) vwCl [(cA, .int)] s := hK.sub [0] rfl
  have hP : va_P (dC, dI) vwCl [(h, .inr (1, [.int v0, .int v1, .ref a1, .ref a2, .ref a3, .null, .null, .null])), (a1, .inl (cA, 10, .inl (fun _ => 0))), (a2, .inl (cA, 8, .inl (fun _ => 0))), (a3, .inl (cA, 8, .inl (fun _ => 0))), (a4, .inl (cA, 136, .inl (fun _ => 0)))] H := hP
  have hD : va_D A [(h, .inr (1, [.int v0, .int v1, .ref a1, .ref a2, .ref a3, .null, .null, .null])), (a1, .inl (cA, 10, .inl (fun _ => 0))), (a2, .inl (cA, 8, .inl (fun _ => 0))), (a3, .inl (cA, 8, .inl (fun _ => 0))), (a4, .inl (cA, 136, .inl (fun _ => 0)))] := hD
  refine va_putF (D := (dC, dI)) (ci := 1) (v := .ref a4) (ty := .array .int) (C := RX1) (T := TX1) (N := 8) hx hb hts iwsX1_init tyX1 tyX1_ok nmX1 hown hK hP hD hS 0 rfl rfl 5 (by decide) (hts (.fieldLink RX1 19 "BranchTimesModel" "joinAt" "[I") (by decide +kernel)) (fun _ h9 => h9) rfl hin rfl (by decide +kernel) rfl rfl (Nat.le_of_ble_eq_true rfl) dX1_init_34 (fun H locs hP hD hS => ?_)
  have hP : va_P (dC, dI) vwCl [(h, .inr (1, [.int v0, .int v1, .ref a1, .ref a2, .ref a3, .ref a4, .null, .null])), (a1, .inl (cA, 10, .inl (fun _ => 0))), (a2, .inl (cA, 8, .inl (fun _ => 0))), (a3, .inl (cA, 8, .inl (fun _ => 0))), (a4, .inl (cA, 136, .inl (fun _ => 0)))] H := hP
  have hD : va_D A [(h, .inr (1, [.int v0, .int v1, .ref a1, .ref a2, .ref a3, .ref a4, .null, .null])), (a1, .inl (cA, 10, .inl (fun _ => 0))), (a2, .inl (cA, 8, .inl (fun _ => 0))), (a3, .inl (cA, 8, .inl (fun _ => 0))), (a4, .inl (cA, 136, .inl (fun _ => 0)))] := hD
  refine lv_aload_n hx hb dX1_init_37 rfl (lv_at hl 0 rfl) ?_
  refine lv_sipush (v := 136) hx hb dX1_init_38 (by decide) ?_
  refine va_newa (D := (dC, dI)) (atype := .int) (ty := .int) (N' := 136) (a0 := (136, .inl (fun _ => 0))) hx hb (hts (.arrayClass .int) (by decide +kernel)) rfl hK hP hD hS hAA (fun _ => rfl) (by decide +kernel) (by decide +kernel) (by decide +kernel) (Nat.le_of_ble_eq_true rfl) (Nat.le_of_ble_eq_true rfl) dX1_init_41 (fun a5 cB H hK hP hD hS => ?_)
  have hcc : cA = cB := (int_one hK).symm
  subst hcc
  have hK : va_K (dC, dI) vwCl [(cA, .int)] s := hK.sub [0] rfl
  have hP : va_P (dC, dI) vwCl [(h, .inr (1, [.int v0, .int v1, .ref a1, .ref a2, .ref a3, .ref a4, .null, .null])), (a1, .inl (cA, 10, .inl (fun _ => 0))), (a2, .inl (cA, 8, .inl (fun _ => 0))), (a3, .inl (cA, 8, .inl (fun _ => 0))), (a4, .inl (cA, 136, .inl (fun _ => 0))), (a5, .inl (cA, 136, .inl (fun _ => 0)))] H := hP
  have hD : va_D A [(h, .inr (1, [.int v0, .int v1, .ref a1, .ref a2, .ref a3, .ref a4, .null, .null])), (a1, .inl (cA, 10, .inl (fun _ => 0))), (a2, .inl (cA, 8, .inl (fun _ => 0))), (a3, .inl (cA, 8, .inl (fun _ => 0))), (a4, .inl (cA, 136, .inl (fun _ => 0))), (a5, .inl (cA, 136, .inl (fun _ => 0)))] := hD
  refine va_putF (D := (dC, dI)) (ci := 1) (v := .ref a5) (ty := .array .int) (C := RX1) (T := TX1) (N := 8) hx hb hts iwsX1_init tyX1 tyX1_ok nmX1 hown hK hP hD hS 0 rfl rfl 6 (by decide) (hts (.fieldLink RX1 22 "BranchTimesModel" "prunedTill" "[I") (by decide +kernel)) (fun _ h9 => h9) rfl hin rfl (by decide +kernel) rfl rfl (Nat.le_of_ble_eq_true rfl) dX1_init_43 (fun H locs hP hD hS => ?_)
  have hP : va_P (dC, dI) vwCl [(h, .inr (1, [.int v0, .int v1, .ref a1, .ref a2, .ref a3, .ref a4, .ref a5, .null])), (a1, .inl (cA, 10, .inl (fun _ => 0))), (a2, .inl (cA, 8, .inl (fun _ => 0))), (a3, .inl (cA, 8, .inl (fun _ => 0))), (a4, .inl (cA, 136, .inl (fun _ => 0))), (a5, .inl (cA, 136, .inl (fun _ => 0)))] H := hP
  have hD : va_D A [(h, .inr (1, [.int v0, .int v1, .ref a1, .ref a2, .ref a3, .ref a4, .ref a5, .null])), (a1, .inl (cA, 10, .inl (fun _ => 0))), (a2, .inl (cA, 8, .inl (fun _ => 0))), (a3, .inl (cA, 8, .inl (fun _ => 0))), (a4, .inl (cA, 136, .inl (fun _ => 0))), (a5, .inl (cA, 136, .inl (fun _ => 0)))] := hD
  refine lv_aload_n hx hb dX1_init_46 rfl (lv_at hl 0 rfl) ?_
  refine lv_sipush (v := 128) hx hb dX1_init_47 (by decide) ?_
  refine va_newa (D := (dC, dI)) (atype := .int) (ty := .int) (N' := 128) (a0 := (128, .inl (fun _ => 0))) hx hb (hts (.arrayClass .int) (by decide +kernel)) rfl hK hP hD hS hAA (fun _ => rfl) (by decide +kernel) (by decide +kernel) (by decide +kernel) (Nat.le_of_ble_eq_true rfl) (Nat.le_of_ble_eq_true rfl) dX1_init_50 (fun a6 cB H hK hP hD hS => ?_)
  have hcc : cA = cB := (int_one hK).symm
  subst hcc
  have hK : va_K (dC, dI) vwCl [(cA, .int)] s := hK.sub [0] rfl
  have hP : va_P (dC, dI) vwCl [(h, .inr (1, [.int v0, .int v1, .ref a1, .ref a2, .ref a3, .ref a4, .ref a5, .null])), (a1, .inl (cA, 10, .inl (fun _ => 0))), (a2, .inl (cA, 8, .inl (fun _ => 0))), (a3, .inl (cA, 8, .inl (fun _ => 0))), (a4, .inl (cA, 136, .inl (fun _ => 0))), (a5, .inl (cA, 136, .inl (fun _ => 0))), (a6, .inl (cA, 128, .inl (fun _ => 0)))] H := hP
  have hD : va_D A [(h, .inr (1, [.int v0, .int v1, .ref a1, .ref a2, .ref a3, .ref a4, .ref a5, .null])), (a1, .inl (cA, 10, .inl (fun _ => 0))), (a2, .inl (cA, 8, .inl (fun _ => 0))), (a3, .inl (cA, 8, .inl (fun _ => 0))), (a4, .inl (cA, 136, .inl (fun _ => 0))), (a5, .inl (cA, 136, .inl (fun _ => 0))), (a6, .inl (cA, 128, .inl (fun _ => 0)))] := hD
  refine va_putF (D := (dC, dI)) (ci := 1) (v := .ref a6) (ty := .array .int) (C := RX1) (T := TX1) (N := 8) hx hb hts iwsX1_init tyX1 tyX1_ok nmX1 hown hK hP hD hS 0 rfl rfl 7 (by decide) (hts (.fieldLink RX1 25 "BranchTimesModel" "cutFrom" "[I") (by decide +kernel)) (fun _ h9 => h9) rfl hin rfl (by decide +kernel) rfl rfl (Nat.le_of_ble_eq_true rfl) dX1_init_52 (fun H locs hP hD hS => ?_)
  have hP : va_P (dC, dI) vwCl [(h, .inr (1, [.int v0, .int v1, .ref a1, .ref a2, .ref a3, .ref a4, .ref a5, .ref a6])), (a1, .inl (cA, 10, .inl (fun _ => 0))), (a2, .inl (cA, 8, .inl (fun _ => 0))), (a3, .inl (cA, 8, .inl (fun _ => 0))), (a4, .inl (cA, 136, .inl (fun _ => 0))), (a5, .inl (cA, 136, .inl (fun _ => 0))), (a6, .inl (cA, 128, .inl (fun _ => 0)))] H := hP
  have hD : va_D A [(h, .inr (1, [.int v0, .int v1, .ref a1, .ref a2, .ref a3, .ref a4, .ref a5, .ref a6])), (a1, .inl (cA, 10, .inl (fun _ => 0))), (a2, .inl (cA, 8, .inl (fun _ => 0))), (a3, .inl (cA, 8, .inl (fun _ => 0))), (a4, .inl (cA, 136, .inl (fun _ => 0))), (a5, .inl (cA, 136, .inl (fun _ => 0))), (a6, .inl (cA, 128, .inl (fun _ => 0)))] := hD
  refine lv_aload_n hx hb dX1_init_55 rfl (lv_at hl 0 rfl) ?_
  refine lv_iload_n hx hb dX1_init_56 rfl (lv_at hl 1 rfl) ?_
  refine lv_if_ge (tgt := 64) hx hb dX1_init_57 (by decide) (fun c57 => ?_) (fun c57 => ?_)
  · refine lv_iload_n hx hb dX1_init_64 rfl (lv_at hl 1 rfl) ?_
    refine lv_bipush (v := 9) hx hb dX1_init_65 (by decide) ?_
    refine lv_icmp_le (tgt := 75) hx hb dX1_init_67 (by decide) (fun c67 => ?_) (fun c67 => ?_)
    · refine lv_iload_n hx hb dX1_init_75 rfl (lv_at hl 1 rfl) ?_
      refine lv_top (x' := mMe0 me) (by simp [mMe0, c57, c67]) ?_
      refine va_putF (D := (dC, dI)) (ci := 1) (v := .int (mMe0 me)) (ty := .int) (C := RX1) (T := TX1) (N := 8) hx hb hts iwsX1_init tyX1 tyX1_ok nmX1 hown hK hP hD hS 0 rfl rfl 0 (by decide) (hts (.fieldLink RX1 28 "BranchTimesModel" "me" "I") (by decide +kernel)) (fun _ h9 => h9) rfl hin rfl (by decide +kernel) rfl rfl (Nat.le_of_ble_eq_true rfl) dX1_init_76 (fun H locs hP hD hS => ?_)
      have hP : va_P (dC, dI) vwCl [(h, .inr (1, [.int (mMe0 me), .int v1, .ref a1, .ref a2, .ref a3, .ref a4, .ref a5, .ref a6])), (a1, .inl (cA, 10, .inl (fun _ => 0))), (a2, .inl (cA, 8, .inl (fun _ => 0))), (a3, .inl (cA, 8, .inl (fun _ => 0))), (a4, .inl (cA, 136, .inl (fun _ => 0))), (a5, .inl (cA, 136, .inl (fun _ => 0))), (a6, .inl (cA, 128, .inl (fun _ => 0)))] H := hP
      have hD : va_D A [(h, .inr (1, [.int (mMe0 me), .int v1, .ref a1, .ref a2, .ref a3, .ref a4, .ref a5, .ref a6])), (a1, .inl (cA, 10, .inl (fun _ => 0))), (a2, .inl (cA, 8, .inl (fun _ => 0))), (a3, .inl (cA, 8, .inl (fun _ => 0))), (a4, .inl (cA, 136, .inl (fun _ => 0))), (a5, .inl (cA, 136, .inl (fun _ => 0))), (a6, .inl (cA, 128, .inl (fun _ => 0)))] := hD
      have hP : va_P (dC, dI) vwCl (wM h a1 a2 a3 a4 a5 a6 cA (mMe0 me) v1 (fun _ => 0) (fun _ => 0) (fun _ => 0) (fun _ => 0) (fun _ => 0) (fun _ => 0)) H := hP
      have hD : va_D A (wM h a1 a2 a3 a4 a5 a6 cA (mMe0 me) v1 (fun _ => 0) (fun _ => 0) (fun _ => 0) (fun _ => 0) (fun _ => 0) (fun _ => 0)) := hD
      refine lv_aload_n hx hb dX1_init_79 rfl (lv_at hl 0 rfl) ?_
      refine wr_Vv (As := []) (rest := []) (ci := 1) (qc := (RX1, TX1, 8)) (wr := []) (A0 := A) S (c_X1_forgetAll l dC dI h a1 a2 a3 a4 a5 a6 cA (mMe0 me) v1 (fun _ => 0) (fun _ => 0) (fun _ => 0) (fun _ => 0) (fun _ => 0) (fun _ => 0) _) gX1_init_X1_forgetAll rfl ⟨rfl, rfl⟩ hd_X1_forgetAll ⟨Nat.le_of_ble_eq_true rfl, Nat.le_of_ble_eq_true rfl⟩ hK hP hD hS hAA [0, 1, 2, 3, 4, 5, 6] [] rfl rfl (by decide) (by decide) (by decide) rfl rfl rfl rfl hl.1 rfl (Nat.le_of_ble_eq_true rfl) dX1_init_80 ⟨Nat.le_of_ble_eq_true rfl, Nat.le_of_ble_eq_true rfl⟩ (fun H locs hP hD hS => ?_)
      have hP9 : va_P (dC, dI) vwCl (wM h a1 a2 a3 a4 a5 a6 cA (mMe0 me) v1 (fillI (fun _ => 0) (-1 : Int32) 10) (fillI (fun _ => 0) (-1 : Int32) 8) (fun _ => 0) (fillI (fun _ => 0) (-1 : Int32) 136) (fun _ => 0) (fillI (fun _ => 0) (-1 : Int32) 128)) H := hP
      have hD9 : va_D A (wM h a1 a2 a3 a4 a5 a6 cA (mMe0 me) v1 (fillI (fun _ => 0) (-1 : Int32) 10) (fillI (fun _ => 0) (-1 : Int32) 8) (fun _ => 0) (fillI (fun _ => 0) (-1 : Int32) 136) (fun _ => 0) (fillI (fun _ => 0) (-1 : Int32) 128)) := hD
      refine W.widen (k := 6) (n := 426) (Nat.le_of_ble_eq_true rfl) (Nat.le_of_ble_eq_true rfl) ?_
      exact W.vret hx hb hr (fun t ht hW => ⟨⟨(), rfl, trivial, a1, a2, a3, a4, a5, a6, _, by rw [ht]; exact hP9, va_K.moved hW.alike hK, hD9⟩, hS.F ht⟩) hS.2.2 dX1_init_83
    · refine lv_bipush (v := 9) hx hb dX1_init_70 (by decide) ?_
      refine lv_goto (tgt := 76) hx hb dX1_init_72 (by decide) ?_
      refine lv_top (x' := mMe0 me) (by simp [mMe0, c57, c67]) ?_
      refine va_putF (D := (dC, dI)) (ci := 1) (v := .int (mMe0 me)) (ty := .int) (C := RX1) (T := TX1) (N := 8) hx hb hts iwsX1_init tyX1 tyX1_ok nmX1 hown hK hP hD hS 0 rfl rfl 0 (by decide) (hts (.fieldLink RX1 28 "BranchTimesModel" "me" "I") (by decide +kernel)) (fun _ h9 => h9) rfl hin rfl (by decide +kernel) rfl rfl (Nat.le_of_ble_eq_true rfl) dX1_init_76 (fun H locs hP hD hS => ?_)
      have hP : va_P (dC, dI) vwCl [(h, .inr (1, [.int (mMe0 me), .int v1, .ref a1, .ref a2, .ref a3, .ref a4, .ref a5, .ref a6])), (a1, .inl (cA, 10, .inl (fun _ => 0))), (a2, .inl (cA, 8, .inl (fun _ => 0))), (a3, .inl (cA, 8, .inl (fun _ => 0))), (a4, .inl (cA, 136, .inl (fun _ => 0))), (a5, .inl (cA, 136, .inl (fun _ => 0))), (a6, .inl (cA, 128, .inl (fun _ => 0)))] H := hP
      have hD : va_D A [(h, .inr (1, [.int (mMe0 me), .int v1, .ref a1, .ref a2, .ref a3, .ref a4, .ref a5, .ref a6])), (a1, .inl (cA, 10, .inl (fun _ => 0))), (a2, .inl (cA, 8, .inl (fun _ => 0))), (a3, .inl (cA, 8, .inl (fun _ => 0))), (a4, .inl (cA, 136, .inl (fun _ => 0))), (a5, .inl (cA, 136, .inl (fun _ => 0))), (a6, .inl (cA, 128, .inl (fun _ => 0)))] := hD
      have hP : va_P (dC, dI) vwCl (wM h a1 a2 a3 a4 a5 a6 cA (mMe0 me) v1 (fun _ => 0) (fun _ => 0) (fun _ => 0) (fun _ => 0) (fun _ => 0) (fun _ => 0)) H := hP
      have hD : va_D A (wM h a1 a2 a3 a4 a5 a6 cA (mMe0 me) v1 (fun _ => 0) (fun _ => 0) (fun _ => 0) (fun _ => 0) (fun _ => 0) (fun _ => 0)) := hD
      refine lv_aload_n hx hb dX1_init_79 rfl (lv_at hl 0 rfl) ?_
      refine wr_Vv (As := []) (rest := []) (ci := 1) (qc := (RX1, TX1, 8)) (wr := []) (A0 := A) S (c_X1_forgetAll l dC dI h a1 a2 a3 a4 a5 a6 cA (mMe0 me) v1 (fun _ => 0) (fun _ => 0) (fun _ => 0) (fun _ => 0) (fun _ => 0) (fun _ => 0) _) gX1_init_X1_forgetAll rfl ⟨rfl, rfl⟩ hd_X1_forgetAll ⟨Nat.le_of_ble_eq_true rfl, Nat.le_of_ble_eq_true rfl⟩ hK hP hD hS hAA [0, 1, 2, 3, 4, 5, 6] [] rfl rfl (by decide) (by decide) (by decide) rfl rfl rfl rfl hl.1 rfl (Nat.le_of_ble_eq_true rfl) dX1_init_80 ⟨Nat.le_of_ble_eq_true rfl, Nat.le_of_ble_eq_true rfl⟩ (fun H locs hP hD hS => ?_)
      have hP9 : va_P (dC, dI) vwCl (wM h a1 a2 a3 a4 a5 a6 cA (mMe0 me) v1 (fillI (fun _ => 0) (-1 : Int32) 10) (fillI (fun _ => 0) (-1 : Int32) 8) (fun _ => 0) (fillI (fun _ => 0) (-1 : Int32) 136) (fun _ => 0) (fillI (fun _ => 0) (-1 : Int32) 128)) H := hP
      have hD9 : va_D A (wM h a1 a2 a3 a4 a5 a6 cA (mMe0 me) v1 (fillI (fun _ => 0) (-1 : Int32) 10) (fillI (fun _ => 0) (-1 : Int32) 8) (fun _ => 0) (fillI (fun _ => 0) (-1 : Int32) 136) (fun _ => 0) (fillI (fun _ => 0) (-1 : Int32) 128)) := hD
      refine W.widen (k := 6) (n := 426) (Nat.le_of_ble_eq_true rfl) (Nat.le_of_ble_eq_true rfl) ?_
      exact W.vret hx hb hr (fun t ht hW => ⟨⟨(), rfl, trivial, a1, a2, a3, a4, a5, a6, _, by rw [ht]; exact hP9, va_K.moved hW.alike hK, hD9⟩, hS.F ht⟩) hS.2.2 dX1_init_83
  · refine lv_iconst (v := 0) hx hb dX1_init_60 (by decide) ?_
    refine lv_goto (tgt := 76) hx hb dX1_init_61 (by decide) ?_
    refine lv_top (x' := mMe0 me) (by simp [mMe0, c57]) ?_
    refine va_putF (D := (dC, dI)) (ci := 1) (v := .int (mMe0 me)) (ty := .int) (C := RX1) (T := TX1) (N := 8) hx hb hts iwsX1_init tyX1 tyX1_ok nmX1 hown hK hP hD hS 0 rfl rfl 0 (by decide) (hts (.fieldLink RX1 28 "BranchTimesModel" "me" "I") (by decide +kernel)) (fun _ h9 => h9) rfl hin rfl (by decide +kernel) rfl rfl (Nat.le_of_ble_eq_true rfl) dX1_init_76 (fun H locs hP hD hS => ?_)
    have hP : va_P (dC, dI) vwCl [(h, .inr (1, [.int (mMe0 me), .int v1, .ref a1, .ref a2, .ref a3, .ref a4, .ref a5, .ref a6])), (a1, .inl (cA, 10, .inl (fun _ => 0))), (a2, .inl (cA, 8, .inl (fun _ => 0))), (a3, .inl (cA, 8, .inl (fun _ => 0))), (a4, .inl (cA, 136, .inl (fun _ => 0))), (a5, .inl (cA, 136, .inl (fun _ => 0))), (a6, .inl (cA, 128, .inl (fun _ => 0)))] H := hP
    have hD : va_D A [(h, .inr (1, [.int (mMe0 me), .int v1, .ref a1, .ref a2, .ref a3, .ref a4, .ref a5, .ref a6])), (a1, .inl (cA, 10, .inl (fun _ => 0))), (a2, .inl (cA, 8, .inl (fun _ => 0))), (a3, .inl (cA, 8, .inl (fun _ => 0))), (a4, .inl (cA, 136, .inl (fun _ => 0))), (a5, .inl (cA, 136, .inl (fun _ => 0))), (a6, .inl (cA, 128, .inl (fun _ => 0)))] := hD
    have hP : va_P (dC, dI) vwCl (wM h a1 a2 a3 a4 a5 a6 cA (mMe0 me) v1 (fun _ => 0) (fun _ => 0) (fun _ => 0) (fun _ => 0) (fun _ => 0) (fun _ => 0)) H := hP
    have hD : va_D A (wM h a1 a2 a3 a4 a5 a6 cA (mMe0 me) v1 (fun _ => 0) (fun _ => 0) (fun _ => 0) (fun _ => 0) (fun _ => 0) (fun _ => 0)) := hD
    refine lv_aload_n hx hb dX1_init_79 rfl (lv_at hl 0 rfl) ?_
    refine wr_Vv (As := []) (rest := []) (ci := 1) (qc := (RX1, TX1, 8)) (wr := []) (A0 := A) S (c_X1_forgetAll l dC dI h a1 a2 a3 a4 a5 a6 cA (mMe0 me) v1 (fun _ => 0) (fun _ => 0) (fun _ => 0) (fun _ => 0) (fun _ => 0) (fun _ => 0) _) gX1_init_X1_forgetAll rfl ⟨rfl, rfl⟩ hd_X1_forgetAll ⟨Nat.le_of_ble_eq_true rfl, Nat.le_of_ble_eq_true rfl⟩ hK hP hD hS hAA [0, 1, 2, 3, 4, 5, 6] [] rfl rfl (by decide) (by decide) (by decide) rfl rfl rfl rfl hl.1 rfl (Nat.le_of_ble_eq_true rfl) dX1_init_80 ⟨Nat.le_of_ble_eq_true rfl, Nat.le_of_ble_eq_true rfl⟩ (fun H locs hP hD hS => ?_)
    have hP9 : va_P (dC, dI) vwCl (wM h a1 a2 a3 a4 a5 a6 cA (mMe0 me) v1 (fillI (fun _ => 0) (-1 : Int32) 10) (fillI (fun _ => 0) (-1 : Int32) 8) (fun _ => 0) (fillI (fun _ => 0) (-1 : Int32) 136) (fun _ => 0) (fillI (fun _ => 0) (-1 : Int32) 128)) H := hP
    have hD9 : va_D A (wM h a1 a2 a3 a4 a5 a6 cA (mMe0 me) v1 (fillI (fun _ => 0) (-1 : Int32) 10) (fillI (fun _ => 0) (-1 : Int32) 8) (fun _ => 0) (fillI (fun _ => 0) (-1 : Int32) 136) (fun _ => 0) (fillI (fun _ => 0) (-1 : Int32) 128)) := hD
    refine W.widen (k := 6) (n := 426) (Nat.le_of_ble_eq_true rfl) (Nat.le_of_ble_eq_true rfl) ?_
    exact W.vret hx hb hr (fun t ht hW => ⟨⟨(), rfl, trivial, a1, a2, a3, a4, a5, a6, _, by rw [ht]; exact hP9, va_K.moved hW.alike hK, hD9⟩, hS.F ht⟩) hS.2.2 dX1_init_83
set_option maxHeartbeats 1000000 in
set_option maxRecDepth 100000 in
theorem c_L_cell (l : Launch) (b L : Nat) (xs : Nat → Int32) (hL : L < 2 ^ 31) : Met l yL_cell wsL_cell ({ frames := 0, cells := 0, slots := 0, locals := 0 }) (va_Pc [.ref b, .int 0] (fun U => va_X b L xs U U.heap)) (QcRead (if 0 < L then xs 0 else 0)) 0 0 (fun _ => False) := by
  refine Met.ofW (cc := cL_cell) (maxL := 2) (ret := some .int) (by decide) rfl ?_
  intro p e s m args below meth c s₁ B hml hv
  obtain ⟨rfl, hX⟩ := hv
  have hx := B.exec
  have hb := B.bytes
  have hr := B.returns
  have hlocks := B.notSynchronized
  have hl := lv_entry ([.ref b, .int 0]) (n := 2) (Nat.le_of_ble_eq_true rfl)
  rw [lg_entry_eq]
  generalize (lg_sl ([.ref b, .int 0]) ++ List.replicate (2 - (lg_sl ([.ref b, .int 0])).length) Slot.unset).toArray = ls at hl ⊢
  have hl : lv_has ls 2 [(0, .ref b), (1, .int 0)] := hl
  have hS : va_S (fun _ => False) s.heap s.heap [] := va_S.rf
  have hbl : b < s.heap.size := by
    obtain ⟨scr, h1, -⟩ := hX
    exact (Array.getElem?_eq_some_iff.mp h1).1
  refine lv_iload_n hx hb dL_cell_0 rfl (lv_at hl 1 rfl) ?_
  refine lv_aload_n hx hb dL_cell_1 rfl (lv_at hl 0 rfl) ?_
  refine va_slen hx hb hX hbl (fun h => h) hS dL_cell_2 ?_
  refine lv_icmp_ge (tgt := 12) hx hb dL_cell_3 (by decide) (fun c3 => ?_) (fun c3 => ?_)
  · have h0 : ¬ 0 < L := fun h => absurd c3 (nI_nle h hL)
    refine lv_iconst (v := 0) hx hb dL_cell_12 (by decide) ?_
    have er : (0 : Int32) = (if 0 < L then xs 0 else 0) := by rw [if_neg h0]
    exact W.iret (v := 0) hx hb hr (fun t ht hW => ⟨congrArg (fun z => Outcome.returned (some (Value.int z))) er, ht⟩) (fun q h => absurd h List.not_mem_nil) dL_cell_13
  · have h0 : 0 < L := by
      rcases Nat.eq_zero_or_pos L with q | q
      · subst q; exact absurd (by decide) c3
      · exact q
    refine lv_aload_n hx hb dL_cell_6 rfl (lv_at hl 0 rfl) ?_
    refine lv_iload_n hx hb dL_cell_7 rfl (lv_at hl 1 rfl) ?_
    refine va_sld hx hb hX hbl (fun h => h) hS (vp_in_nI (n := 0) h0 hL) dL_cell_8 ?_
    refine lv_goto (tgt := 13) hx hb dL_cell_9 (by decide) ?_
    have er : xs (0 : Int32).toNatClampNeg = (if 0 < L then xs 0 else 0) := by rw [if_pos h0]; rfl
    exact W.iret (v := xs (0 : Int32).toNatClampNeg) hx hb hr (fun t ht hW => ⟨congrArg (fun z => Outcome.returned (some (Value.int z))) er, ht⟩) (fun q h => absurd h List.not_mem_nil) dL_cell_13
theorem hd_L_cell : yL_cell.cls ≠ "java/lang/invoke/MethodHandle" ∧ yL_cell.cls ≠ "java/lang/invoke/VarHandle" ∧ (parseMethodDescriptor yL_cell.desc).map (fun d => d.parameters.length) = some 2 := by decide +kernel
end
section
-- from kit/laws/BITS.to-paste
def bt (x : Int32) (i : Nat) : Bool := x.toBitVec.getLsbD i
theorem b_ext {x y : Int32} (h : ∀ i, i < 32 → bt x i = bt y i) : x = y := Int32.toBitVec_inj.mp (BitVec.eq_of_getLsbD_eq (fun i hi => h i hi))
theorem b_and (x y : Int32) (i : Nat) : bt (x &&& y) i = (bt x i && bt y i) := by unfold bt; rw [Int32.toBitVec_and, BitVec.getLsbD_and]
theorem b_xor (x y : Int32) (i : Nat) : bt (x ^^^ y) i = (bt x i ^^ bt y i) := by unfold bt; rw [Int32.toBitVec_xor, BitVec.getLsbD_xor]
theorem b_big {x : Int32} {i : Nat} (h : 32 ≤ i) : bt x i = false := BitVec.getLsbD_of_ge _ _ h
theorem b_65535 (i : Nat) : bt 65535 i = decide (i < 16) := by
  rcases Nat.lt_or_ge i 32 with h | h
  · exact (by decide +kernel : ∀ i, i < 32 → bt 65535 i = decide (i < 16)) i h
  · rw [b_big h, decide_eq_false (by omega)]
theorem b_m1 : ∀ i, i < 32 → bt (-1) i = true := by decide +kernel
theorem b_0 (i : Nat) : bt 0 i = false := BitVec.getLsbD_zero
theorem s_l : ∀ n, n < 32 → ((nI n &&& 31).toBitVec.smod 32).toNat = n := by decide +kernel
theorem b_sshr (n : Nat) (hn : n < 32) (x : Int32) {i : Nat} (hi : i < 32) : bt (x >>> (nI n &&& 31)) i = if n + i < 32 then bt x (n + i) else bt x 31 := by
  unfold bt
  rw [Int32.toBitVec_shiftRight]
  show (x.toBitVec.sshiftRight ((nI n &&& 31).toBitVec.smod 32).toNat).getLsbD i = _
  rw [s_l n hn, BitVec.getLsbD_sshiftRight, BitVec.msb_eq_getLsbD_last]
  simp [hi]
-- one bit
theorem b_1 : ∀ i, i < 32 → bt 1 i = decide (i = 0) := by decide +kernel
theorem one0 {y : Int32} : y &&& 1 = 0 ↔ bt y 0 = false := by
  constructor
  · intro h
    have h1 : bt (y &&& 1) 0 = false := by rw [h]; exact b_0 0
    rw [b_and, b_1 0 (by decide)] at h1
    simpa using h1
  · intro h
    refine b_ext (fun i hi => ?_)
    rw [b_and, b_1 i hi, b_0]
    by_cases e : i = 0
    · subst e; simp [h]
    · simp [e]
theorem one1 {y : Int32} : y &&& 1 = 1 ↔ bt y 0 = true := by
  constructor
  · intro h
    have h1 : bt (y &&& 1) 0 = true := by rw [h]; exact b_1 0 (by decide)
    rw [b_and, b_1 0 (by decide)] at h1
    simpa using h1
  · intro h
    refine b_ext (fun i hi => ?_)
    rw [b_and, b_1 i hi]
    by_cases e : i = 0
    · subst e; simp [h]
    · simp [e]
theorem xBit_bt (x : Int32) {i : Nat} (hi : i < 32) : xBit x (nI i) = bt x i := by
  have h : bt (x >>> (nI i &&& 31)) 0 = bt x i := by rw [b_sshr i hi x (by decide)]; simp [hi]
  unfold xBit
  cases hb : bt x i with
  | true => rw [hb] at h; rw [decide_eq_false (fun e => by rw [one0.mp e] at h; exact Bool.noConfusion h)]; rfl
  | false => rw [hb] at h; rw [decide_eq_true (one0.mpr h)]; rfl
theorem mTold_bt (x : Int32) {i : Nat} (hi : i < 32) : mTold x i = bt x i := by
  have h : bt (x >>> (nI i &&& 31)) 0 = bt x i := by rw [b_sshr i hi x (by decide)]; simp [hi]
  unfold mTold
  cases hb : bt x i with
  | true => rw [hb] at h; exact decide_eq_true (one1.mpr h)
  | false => rw [hb] at h; exact decide_eq_false (fun e => by rw [one1.mp e] at h; exact Bool.noConfusion h)
end
section
-- numbers
theorem nI_m1 {t : Nat} (h : t < 2 ^ 31) : ¬ nI t = -1 := by
  intro e
  have h1 : (nI t).toInt = (t : Int) := nI_toInt h
  rw [e, show (-1 : Int32).toInt = -1 by decide] at h1
  omega
theorem bits_congr {q q' : Nat → Bool} : ∀ {k : Nat}, (∀ i, i < k → q i = q' i) → bitsI q k = bitsI q' k
  | 0, _ => rfl
  | k + 1, h => by
    have e := bits_congr (k := k) (fun i hi => h i (by omega))
    show (if q k = true then bitsI q k ||| _ else bitsI q k) = (if q' k = true then bitsI q' k ||| _ else bitsI q' k)
    rw [e, h k (by omega)]
theorem xSt_nI {T v : Nat} (hT : T < 2 ^ 31) (hv : v < 2 ^ 31) : xSt (nI T) (nI v) = decide (T < v) := by
  unfold xSt
  rw [show decide (nI v ≤ nI T) = decide (v ≤ T) from decide_eq_decide.mpr (nI_leI hv hT)]
  by_cases h : T < v
  · simp [h]
  · simp [h, Nat.not_lt.mp h]
theorem fill_lt {f : Nat → Int32} {v : Int32} : ∀ {n j : Nat}, j < n → fillI f v n j = v
  | n + 1, j, h => by
    show (if j = n then v else fillI f v n j) = v
    by_cases e : j = n
    · rw [if_pos e]
    · rw [if_neg e]; exact fill_lt (by omega)
-- the relation, cell by cell
def nbRel (x a : Int32) : Prop := (a = -1 ∧ x = 0) ∨ ∃ t : Nat, t ≤ 100000 ∧ a = nI t ∧ x = nI (t + 65)
def tlRel (sp : Nat) (x a u : Int32) : Prop := (a = -1 ∧ x = 0) ∨ ∃ t v : Nat, t ≤ 100000 ∧ v ≤ 1000000 ∧ a = nI t ∧ u = nI v ∧ x = nI (min (t + sp) v)
def cuRel (b : Bool) (x a : Int32) : Prop := (b = false ∧ a = -1) ∨ (b = true ∧ ∃ t : Nat, t ≤ 200000 ∧ a = nI t ∧ x = nI t)
def pm (g e : Nat) : Nat := 17 * g + (e + 1) % 17
def Rel (k : Nat) (tm : Int32) (fN fM fJ fT fC hA rA lT jA pT cF : Nat → Int32) : Prop :=
  k < 10 ∧ (∃ T : Nat, T ≤ 100000 ∧ tm = nI T) ∧ (∀ n, n < 10 → nbRel (fN n) (hA n)) ∧ hA k = -1 ∧ (∀ g, g < 8 → tlRel 60 (fM g) (rA g) (lT g)) ∧ (∀ g e, g < 8 → e < 17 → tlRel 70 (fJ (g * 17 + e)) (jA (pm g e)) (pT (pm g e))) ∧ (∀ g i, g < 8 → i < 16 → cuRel (bt (fT g) i) (fC (g * 16 + i)) (cF (g * 16 + i)))
theorem nb_q {x a : Int32} {T : Nat} (hT : T ≤ 100000) (h : nbRel x a) : xSt (nI T) x = (!decide (a = -1) && !decide (a + 65 ≤ nI T)) := by
  rcases h with ⟨rfl, rfl⟩ | ⟨t, ht, rfl, rfl⟩
  · rw [show (0 : Int32) = nI 0 from rfl, xSt_nI (by omega) (by decide)]
    simp
  · rw [decide_eq_false (nI_m1 (t := t) (by omega))]
    show xSt (nI T) (nI (t + 65)) = (true && !decide (nI t + nI 65 ≤ nI T))
    rw [nI_add]
    rfl
theorem tl_q {sp : Nat} {x a u : Int32} {T : Nat} (hT : T ≤ 100000) (hs : sp ≤ 1000) (h : tlRel sp x a u) : ∃ v : Nat, v ≤ 1000000 ∧ x = nI v ∧ mT (nI T) a (nI sp) u = (if T < v then nI v else 0) := by
  rcases h with ⟨rfl, rfl⟩ | ⟨t, v, ht, hv, rfl, rfl, rfl⟩
  · exact ⟨0, by decide, rfl, by unfold mT; rw [if_pos rfl, if_neg (by omega)]⟩
  · refine ⟨min (t + sp) v, by omega, rfl, ?_⟩
    unfold mT
    rw [if_neg (nI_m1 (t := t) (by omega)), nI_add]
    have e1 : (if nI (t + sp) ≤ nI v then nI (t + sp) else nI v) = nI (min (t + sp) v) := by
      by_cases h : t + sp ≤ v
      · rw [if_pos ((nI_leI (by omega) (by omega)).mpr h), Nat.min_eq_left h]
      · rw [if_neg (fun q => h ((nI_leI (by omega) (by omega)).mp q)), Nat.min_eq_right (by omega)]
    rw [e1]
    by_cases h : T < min (t + sp) v
    · rw [if_neg (fun q => by have := (nI_leI (by omega) (by omega)).mp q; omega), if_pos h]
    · rw [if_pos ((nI_leI (by omega) (by omega)).mpr (by omega)), if_neg h]
theorem tl_tz {sp : Nat} {x a u : Int32} {T : Nat} (hT : T ≤ 100000) (hs : sp ≤ 1000) (h : tlRel sp x a u) : xTz (nI T) x = mT (nI T) a (nI sp) u := by
  obtain ⟨v, hv, rfl, e⟩ := tl_q hT hs h
  rw [e]
  unfold xTz
  rw [xSt_nI (by omega) (by omega)]
  by_cases q : T < v <;> simp [q]
theorem tl_0 {sp : Nat} {x a u : Int32} {T : Nat} (hT : T ≤ 100000) (hs : sp ≤ 1000) (h : tlRel sp x a u) : xSt (nI T) x = !decide (mT (nI T) a (nI sp) u = 0) ∧ xSt (nI T) x = !decide (mT (nI T) a (nI sp) u ≤ 0) ∧ xSt (nI T) x = decide (0 < mT (nI T) a (nI sp) u) := by
  obtain ⟨v, hv, rfl, e⟩ := tl_q hT hs h
  rw [e, xSt_nI (by omega) (by omega)]
  by_cases q : T < v
  · have h0 : ¬ nI v = 0 := nI_ne0 (by omega) (by omega)
    have h1 : ¬ nI v ≤ 0 := nI_nle (by omega) (by omega)
    have h2 : 0 < nI v := nI_lt (a := 0) (b := v) (by omega) (by omega)
    simp [q, h0, h1, h2]
  · have h2 : ¬ (0 : Int32) < 0 := by decide
    have h1 : (0 : Int32) ≤ 0 := by decide
    simp [q, h2, h1]
theorem cu_q {b : Bool} {x a : Int32} {T : Nat} (h : cuRel b x a) : (b && !decide (nI T < x)) = (!decide (a = -1) && !decide (nI T < a)) := by
  rcases h with ⟨rfl, rfl⟩ | ⟨rfl, t, ht, rfl, rfl⟩
  · simp
  · rw [decide_eq_false (nI_m1 (t := t) (by omega))]
    rfl
-- the neighbours' bits
theorem bits_nat2 (q : Nat → Bool) : ∀ k : Nat, k ≤ 31 → ∃ b : Nat, b < 2 ^ k ∧ bitsI q k = nI b ∧ ∀ j, j < k → b / 2 ^ j % 2 = (if q j = true then 1 else 0)
  | 0, _ => ⟨0, by decide, nI_0.symm, fun j h => absurd h (Nat.not_lt_zero j)⟩
  | k + 1, h => by
    obtain ⟨b, hb, e, hj⟩ := bits_nat2 q k (by omega)
    have hp : 2 ^ (k + 1) = 2 ^ k + 2 ^ k := by rw [Nat.pow_succ]; omega
    have hpos : 0 < 2 ^ k := Nat.two_pow_pos k
    cases hq : q k with
    | true =>
      refine ⟨b + 2 ^ k, by omega, by rw [bitsI_t hq, e]; exact or_bit (by omega) hb, fun j hjk => ?_⟩
      by_cases hjk2 : j = k
      · subst hjk2
        rw [hq, if_pos rfl, Nat.add_div_right _ hpos, Nat.div_eq_of_lt hb]
      · have hlt : j < k := by omega
        rw [← hj j hlt]
        have e2 : 2 ^ k = 2 ^ j * (2 * 2 ^ (k - j - 1)) := by
          rw [show k = j + (1 + (k - j - 1)) by omega, Nat.pow_add, Nat.pow_add, show j + (1 + (k - j - 1)) - j - 1 = k - j - 1 by omega]
        rw [e2, Nat.add_mul_div_left _ _ (Nat.two_pow_pos j), Nat.add_mul_mod_self_left]
    | false =>
      refine ⟨b, by omega, by rw [bitsI_f hq, e], fun j hjk => ?_⟩
      by_cases hjk2 : j = k
      · subst hjk2
        rw [hq, Nat.div_eq_of_lt hb]; rfl
      · exact hj j (by omega)
theorem shr_k {b k : Nat} (hb : b < 2 ^ 31) (hk : k < 31) : nI b >>> (nI k &&& 31) = nI (b / 2 ^ k) := pk_shrN hb _ k (s_l k (by omega))
theorem shl_1 {k : Nat} (hk : k < 30) : ((1 : Int32) <<< (nI k &&& 31)) = nI (2 ^ k) := by
  have := pk_shlN (n := 1) (nI k &&& 31) k (s_l k (by omega)) (by
    have : 2 ^ k ≤ 2 ^ 30 := Nat.pow_le_pow_right (by decide) (by omega)
    omega)
  rw [Nat.one_mul] at this
  exact this
theorem shl_ne {k : Nat} (hk : k < 30) : ¬ ((1 : Int32) <<< (nI k &&& 31)) = 0 := by
  have h2 : 2 ^ k ≤ 2 ^ 30 := Nat.pow_le_pow_right (by decide) (by omega)
  have h3 : 0 < 2 ^ k := Nat.two_pow_pos k
  rw [shl_1 hk]
  exact nI_ne0 h3 (by omega)
theorem first_q {b k : Nat} (hb : b < 1024) (hk : k < 10) (h0 : b / 2 ^ k % 2 = 0) : xFirst (nI k) (nI b) = mFirst (nI k) (nI b) := by
  unfold xFirst mFirst
  rw [nI_1, shr_k (by omega) (by omega), shr_k (by omega) (by omega)]
  have h1 : b / 2 ^ (k + 1) = b / 2 ^ k / 2 := by rw [Nat.pow_succ, Nat.div_div_eq_div_mul]
  have h2 : b / 2 ^ k ≤ b := Nat.div_le_self _ _
  rw [h1]
  refine decide_eq_decide.mpr ?_
  rw [show (0 : Int32) = nI 0 from rfl, nI_eq (by omega) (by decide), nI_eq (by omega) (by decide)]
  omega
theorem ask_q {b k : Nat} (hb : b < 1024) (hk : k < 10) : xAsk (nI k) (nI b) = mAsk (nI k) (nI b) := by
  have h2 : 2 ^ k ≤ 2 ^ 9 := Nat.pow_le_pow_right (by decide) (by omega)
  have h3 : 0 < 2 ^ k := Nat.two_pow_pos k
  unfold xAsk mAsk
  rw [shl_1 (by omega), pk_rem (by omega) h3 (by omega)]
  have e1 : nI (2 ^ k) - 1 = nI (2 ^ k - 1) := pk_sub (b := 1) h3
  rw [e1, pk_andN (by omega) k (pk_tn (by omega))]
theorem crowd_q {b : Nat} (hb : b < 1024) : xCrowd (nI b) = mCrowd (nI b) := co_dec (N := 1024) (P := fun b => xCrowd (nI b) = mCrowd (nI b)) (by decide +kernel) hb
end
section
-- equal answers, out of the relation
section ANS
variable {k : Nat} {tm : Int32} {fN fM fJ fT fC hA rA lT jA pT cF : Nat → Int32}
theorem R_nb (R : Rel k tm fN fM fJ fT fC hA rA lT jA pT cF) : xNb tm fN = mNb tm hA := by
  obtain ⟨hk, ⟨T, hT, rfl⟩, hn, -⟩ := R
  exact bits_congr (fun i hi => nb_q hT (hn i hi))
theorem R_nbn (R : Rel k tm fN fM fJ fT fC hA rA lT jA pT cF) : ∃ b : Nat, b < 1024 ∧ xNb tm fN = nI b ∧ mNb tm hA = nI b ∧ b / 2 ^ k % 2 = 0 := by
  obtain ⟨b, hb, e, hj⟩ := bits_nat2 (mNbq tm hA) 10 (by decide)
  refine ⟨b, hb, (R_nb R).trans e, e, ?_⟩
  rw [hj k R.1]
  have : mNbq tm hA k = false := by unfold mNbq; rw [R.2.2.2.1]; simp
  rw [this]; rfl
theorem R_first (R : Rel k tm fN fM fJ fT fC hA rA lT jA pT cF) : xFirst (nI k) (xNb tm fN) = mFirst (nI k) (mNb tm hA) := by
  obtain ⟨b, hb, e1, e2, h0⟩ := R_nbn R
  rw [e1, e2]; exact first_q hb R.1 h0
theorem R_ask (R : Rel k tm fN fM fJ fT fC hA rA lT jA pT cF) : xAsk (nI k) (xNb tm fN) = mAsk (nI k) (mNb tm hA) := by
  obtain ⟨b, hb, e1, e2, h0⟩ := R_nbn R
  rw [e1, e2]; exact ask_q hb R.1
theorem R_crowd (R : Rel k tm fN fM fJ fT fC hA rA lT jA pT cF) : xCrowd (xNb tm fN) = mCrowd (mNb tm hA) := by
  obtain ⟨b, hb, e1, e2, h0⟩ := R_nbn R
  rw [e1, e2]; exact crowd_q hb
theorem R_eff (R : Rel k tm fN fM fJ fT fC hA rA lT jA pT cF) : xEff tm (xNb tm fN) = mEff tm (mNb tm hA) := by unfold xEff mEff; rw [R_crowd R]
theorem R_effn (R : Rel k tm fN fM fJ fT fC hA rA lT jA pT cF) : ∃ E : Nat, E ≤ 100003 ∧ xEff tm (xNb tm fN) = nI E := by
  obtain ⟨-, ⟨T, hT, rfl⟩, -⟩ := R
  unfold xEff
  by_cases h : xCrowd (xNb (nI T) fN) = true
  · rw [if_pos h]; exact ⟨T + 3, by omega, nI_add T 3⟩
  · rw [if_neg h]; exact ⟨T, by omega, rfl⟩
theorem nI_cl {n : Nat} (h : n < 1000) : (nI n).toNatClampNeg = n := nI_clamp (by omega)
theorem R_mt (R : Rel k tm fN fM fJ fT fC hA rA lT jA pT cF) {j : Nat} (hj : j < 8) : ∃ T : Nat, T ≤ 100000 ∧ tm = nI T ∧ tlRel 60 (fM (nI j).toNatClampNeg) (rA (nI j).toNatClampNeg) (lT (nI j).toNatClampNeg) := by
  obtain ⟨-, ⟨T, hT, e⟩, -, -, hm, -⟩ := R
  exact ⟨T, hT, e, by rw [nI_cl (by omega)]; exact hm j hj⟩
theorem R_mtz (R : Rel k tm fN fM fJ fT fC hA rA lT jA pT cF) {j : Nat} (hj : j < 8) : xTz tm (fM (nI j).toNatClampNeg) = mMt tm rA lT (nI j) := by
  obtain ⟨T, hT, rfl, h⟩ := R_mt R hj
  exact tl_tz hT (by decide) h
theorem R_mt0 (R : Rel k tm fN fM fJ fT fC hA rA lT jA pT cF) {j : Nat} (hj : j < 8) : xSt tm (fM (nI j).toNatClampNeg) = !decide (mMt tm rA lT (nI j) = 0) ∧ xSt tm (fM (nI j).toNatClampNeg) = !decide (mMt tm rA lT (nI j) ≤ 0) := by
  obtain ⟨T, hT, rfl, h⟩ := R_mt R hj
  have h2 := tl_0 hT (by decide) h
  exact ⟨h2.1, h2.2.1⟩
theorem br_eq (g q : Int32) : xJoB g q = mBr g q := by
  refine Bool.eq_iff_iff.mpr ⟨fun h => ?_, fun h => ?_⟩
  · unfold xJoB at h
    simp only [Bool.and_eq_true] at h
    obtain ⟨h1, h2⟩ := h
    unfold xBr at h2
    simp only [Bool.or_eq_true, decide_eq_true_eq] at h2
    rcases h2 with rfl | h2
    · exact mBr_st h1
    · obtain ⟨i, hi, rfl⟩ := xSrc_of h2
      exact mBr_nb h1 hi
  · unfold xJoB
    rw [mBr_G h]
    rcases mBr_of h with rfl | ⟨i, hi, rfl⟩
    · rfl
    · rw [Br_src (xSrc_nI hi)]; rfl
theorem place {g q : Int32} (h : mBr g q = true) : ∃ j e : Nat, j < 8 ∧ e < 17 ∧ g = nI j ∧ (xPl g q).toNatClampNeg = j * 17 + e ∧ (mPl g q).toNatClampNeg = pm j e := by
  obtain ⟨j, hj, rfl⟩ := xG_of (mBr_G h)
  rcases mBr_of h with rfl | ⟨i, hi, rfl⟩
  · exact ⟨j, 16, hj, by decide, rfl, by rw [Pl_st, nI_cl (by omega)], by rw [mPl_st, nI_cl (by omega)]; rfl⟩
  · refine ⟨j, i, hj, by omega, rfl, by rw [Pl_nI hi, nI_cl (by omega)], ?_⟩
    rw [mPl_nI, nI_cl (by omega)]
    unfold pm
    rw [Nat.mod_eq_of_lt (by omega)]; omega
theorem R_tl (R : Rel k tm fN fM fJ fT fC hA rA lT jA pT cF) {g q : Int32} (h : mBr g q = true) : ∃ T : Nat, T ≤ 100000 ∧ tm = nI T ∧ tlRel 70 (fJ (xPl g q).toNatClampNeg) (jA (mPl g q).toNatClampNeg) (pT (mPl g q).toNatClampNeg) := by
  obtain ⟨j, e, hj, he, -, e1, e2⟩ := place h
  obtain ⟨-, ⟨T, hT, et⟩, -, -, -, hJ, -⟩ := R
  exact ⟨T, hT, et, by rw [e1, e2]; exact hJ j e hj he⟩
theorem R_tlz (R : Rel k tm fN fM fJ fT fC hA rA lT jA pT cF) {g q : Int32} (h : mBr g q = true) : xTz tm (fJ (xPl g q).toNatClampNeg) = mTi tm jA pT g q := by
  obtain ⟨T, hT, rfl, h⟩ := R_tl R h
  exact tl_tz hT (by decide) h
theorem R_tl0 (R : Rel k tm fN fM fJ fT fC hA rA lT jA pT cF) {g q : Int32} (h : mBr g q = true) : xSt tm (fJ (xPl g q).toNatClampNeg) = !decide (mTi tm jA pT g q = 0) ∧ xSt tm (fJ (xPl g q).toNatClampNeg) = !decide (mTi tm jA pT g q ≤ 0) ∧ xSt tm (fJ (xPl g q).toNatClampNeg) = decide (0 < mTi tm jA pT g q) := by
  obtain ⟨T, hT, rfl, h⟩ := R_tl R h
  exact tl_0 hT (by decide) h
theorem R_jd (R : Rel k tm fN fM fJ fT fC hA rA lT jA pT cF) (g q : Int32) : xJd tm fJ g q = mJd tm jA pT g q := by
  unfold xJd mJd
  rw [br_eq]
  by_cases h : mBr g q = true
  · rw [if_pos h, if_pos h, R_tlz R h]
  · rw [if_neg h, if_neg h]
theorem R_me (R : Rel k tm fN fM fJ fT fC hA rA lT jA pT cF) (g : Int32) : xMe tm fM g = mMe tm rA lT g := by
  unfold xMe mMe
  by_cases h : xG g = true
  · obtain ⟨j, hj, rfl⟩ := xG_of h
    rw [if_pos h, if_pos h, R_mtz R hj]
  · rw [if_neg h, if_neg h]
theorem src_eq (g q : Int32) : (xG g && xSrc q) = (mBr g q && !decide (q = -1)) := by
  rw [← br_eq]
  unfold xJoB xBr
  by_cases h : q = -1
  · subst h
    rw [show xSrc (-1) = false by decide]; simp
  · simp [h]
theorem R_cu1 (R : Rel k tm fN fM fJ fT fC hA rA lT jA pT cF) {j i : Nat} (hj : j < 8) (hi : i < 16) : cuRel (xBit (fT (nI j).toNatClampNeg) (nI i)) (fC (xCp (nI j) (nI i)).toNatClampNeg) (cF (mCp (nI j) (nI i)).toNatClampNeg) := by
  rw [mCp_eq, Cp_nI, nI_cl (by omega), nI_cl (by omega), xBit_bt _ (by omega)]
  exact R.2.2.2.2.2.2 j i hj hi
theorem R_cu (R : Rel k tm fN fM fJ fT fC hA rA lT jA pT cF) (g q : Int32) : xCu tm fJ fT fC g q = mCu tm jA pT cF g q := by
  unfold xCu mCu
  rw [src_eq]
  by_cases h : (mBr g q && !decide (q = -1)) = true
  · rw [if_pos h, if_pos h]
    rw [← src_eq] at h
    simp only [Bool.and_eq_true] at h
    obtain ⟨hg, hq⟩ := h
    obtain ⟨j, hj, rfl⟩ := xG_of hg
    obtain ⟨i, hi, rfl⟩ := xSrc_of hq
    have hs := (R_tl0 R (mBr_st hg)).1
    have hc := R_cu1 R hj hi
    unfold xStar
    rw [hs]
    rcases hc with ⟨h1, h2⟩ | ⟨h1, t, ht, h2, h3⟩
    · rw [h1, h2]; simp
    · rw [h1, h2, h3]
      have := nI_m1 (t := t) (by omega)
      by_cases h0 : mTi tm jA pT (nI j) (-1) = 0 <;> simp [h0, this]
  · rw [if_neg h, if_neg h]
theorem R_own (R : Rel k tm fN fM fJ fT fC hA rA lT jA pT cF) {j : Nat} (hj : j < 8) : (xSt tm (fM (nI j).toNatClampNeg) && xFirst (nI k) (xNb tm fN)) = mOwn (nI k) tm hA rA lT (nI j) := by
  unfold mOwn
  rw [(R_mt0 R hj).2, R_first R]
theorem R_goq (R : Rel k tm fN fM fJ fT fC hA rA lT jA pT cF) {j i : Nat} (hj : j < 8) (hi : i < 16) : xGoq tm fJ fT fC (nI j) i = mGoq false tm jA pT cF (nI j) i := by
  unfold xGoq mGoq xStar
  rw [(R_tl0 R (mBr_st (xG_nI hj))).2.1, (R_tl0 R (mBr_nb (xG_nI hj) hi)).2.2]
  have hc : xCut tm fT fC (nI j) (nI i) = mCut tm cF (nI j) (nI i) := by
    unfold xCut mCut
    obtain ⟨T, hT, rfl⟩ := R.2.1
    exact cu_q (R_cu1 R hj hi)
  rw [hc]
  simp [Bool.or_comm]
theorem all16 : bitsI (fun _ => true) 16 = 65535 := by decide +kernel
theorem R_go (R : Rel k tm fN fM fJ fT fC hA rA lT jA pT cF) {j : Nat} (hj : j < 8) : xGo (nI k) tm fN fM fJ fT fC (nI j) = mGoes (nI k) tm hA rA lT jA pT cF (nI j) := by
  unfold xGo mGoes
  rw [if_pos (xG_nI hj), R_own R hj]
  cases hm : mOwn (nI k) tm hA rA lT (nI j) with
  | true =>
    rw [if_pos rfl, ← all16]
    exact bits_congr (fun i hi => by unfold mGoq; simp)
  | false =>
    rw [if_neg (by decide)]
    exact bits_congr (fun i hi => R_goq R hj hi)
theorem R_goes (R : Rel k tm fN fM fJ fT fC hA rA lT jA pT cF) (g : Int32) : xGoes (nI k) tm fN fM fJ fT fC g = mGoes (nI k) tm hA rA lT jA pT cF g := by
  by_cases h : xG g = true
  · obtain ⟨j, hj, rfl⟩ := xG_of h
    unfold xGoes
    rw [if_pos h, R_go R hj]
  · unfold xGoes mGoes
    rw [if_neg h, if_neg h]
theorem R_gr (R : Rel k tm fN fM fJ fT fC hA rA lT jA pT cF) : xGr (nI k) tm fN fM fJ fT fC = mGr (nI k) tm hA rA lT jA pT cF := bits_congr (fun i hi => by unfold xGrq mGrq; rw [R_go R hi])
-- how many
def cntN (q : Nat → Bool) : Nat → Nat
  | 0 => 0
  | n + 1 => cntN q n + (q n).toNat
theorem cntI_N (q : Nat → Bool) : ∀ n : Nat, cntI q n = nI (cntN q n)
  | 0 => nI_0.symm
  | n + 1 => by
    show (if q n = true then cntI q n + 1 else cntI q n) = nI (cntN q n + (q n).toNat)
    rw [cntI_N q n]
    cases q n with
    | true => exact nI_1 _
    | false => rfl
theorem cnt17 (q : Nat → Bool) (b : Nat) : cntN q (b + 17) = cntN q b + (q b).toNat + (q (b + 1)).toNat + (q (b + 2)).toNat + (q (b + 3)).toNat + (q (b + 4)).toNat + (q (b + 5)).toNat + (q (b + 6)).toNat + (q (b + 7)).toNat + (q (b + 8)).toNat + (q (b + 9)).toNat + (q (b + 10)).toNat + (q (b + 11)).toNat + (q (b + 12)).toNat + (q (b + 13)).toNat + (q (b + 14)).toNat + (q (b + 15)).toNat + (q (b + 16)).toNat := rfl
theorem cnt_rot {q q' : Nat → Bool} : ∀ n : Nat, (∀ g e, g < n → e < 17 → q (g * 17 + e) = q' (pm g e)) → cntN q (n * 17) = cntN q' (n * 17)
  | 0, _ => by simp [cntN]
  | n + 1, h => by
    have ih := cnt_rot n (fun g e hg he => h g e (by omega) he)
    rw [show (n + 1) * 17 = n * 17 + 17 by omega, cnt17, cnt17, ih]
    have e0 : ∀ e, e < 16 → q (n * 17 + e) = q' (n * 17 + (e + 1)) := fun e he => by
      rw [h n e (by omega) (by omega)]
      unfold pm
      rw [Nat.mod_eq_of_lt (by omega), Nat.mul_comm 17 n]
    have e16 : q (n * 17 + 16) = q' (n * 17) := by
      rw [h n 16 (by omega) (by omega)]
      unfold pm
      rw [Nat.mul_comm 17 n]
      rfl
    have a0 := e0 0 (by decide)
    rw [Nat.add_zero] at a0
    rw [a0, e0 1 (by decide), e0 2 (by decide), e0 3 (by decide), e0 4 (by decide), e0 5 (by decide), e0 6 (by decide), e0 7 (by decide), e0 8 (by decide), e0 9 (by decide), e0 10 (by decide), e0 11 (by decide), e0 12 (by decide), e0 13 (by decide), e0 14 (by decide), e0 15 (by decide), e16]
    simp only [Nat.reduceAdd]
    omega
theorem mPl_dm {i : Nat} (h : i < 136) : mPl (mDv i) (mMd i) = nI i := co_dec (N := 136) (P := fun i => mPl (mDv i) (mMd i) = nI i) (by decide +kernel) h
theorem pm_lt {g e : Nat} (hg : g < 8) : pm g e < 136 := by
  unfold pm
  have := Nat.mod_lt (e + 1) (show 0 < 17 by decide)
  omega
theorem R_cnt (R : Rel k tm fN fM fJ fT fC hA rA lT jA pT cF) : xCnt tm fJ = mCnt tm jA pT := by
  unfold xCnt mCnt
  rw [cntI_N, cntI_N]
  have key := cnt_rot (q := xNbq tm fJ) (q' := mCnq tm jA pT) 8 (fun g e hg he => by
    obtain ⟨-, ⟨T, hT, rfl⟩, -, -, -, hJ, -⟩ := R
    have h := tl_0 hT (by decide) (hJ g e hg he)
    unfold xNbq mCnq
    rw [h.2.1]
    unfold mTi
    rw [mPl_dm (pm_lt hg), nI_clamp (by have := pm_lt (g := g) (e := e) hg; omega)]
    rfl)
  exact congrArg nI key
theorem R_look (R : Rel k tm fN fM fJ fT fC hA rA lT jA pT cF) (w : Int32) : xLook (nI k) tm fN fM fJ fT fC w = mLook (nI k) tm hA rA lT jA pT cF w := by
  unfold xLook mLook
  rw [R_first R, R_ask R, R_crowd R, R_gr R, R_cnt R, R_nb R]
theorem he_eq (me n : Int32) : xHeB me n = mHeB me n := by
  unfold xHeB mHeB
  have : decide ((10 : Int32) ≤ n) = decide ((9 : Int32) < n) := by
    refine decide_eq_decide.mpr ?_
    rw [toI_le, toI_lt, show (10 : Int32).toInt = 10 by decide, show (9 : Int32).toInt = 9 by decide]
    omega
  rw [this]
theorem R_leb (R : Rel k tm fN fM fJ fT fC hA rA lT jA pT cF) (g : Int32) : xLeB (nI k) tm fN fM g = mLeB (nI k) tm hA rA lT g := by
  unfold xLeB mLeB
  rw [R_ask R]
  by_cases h : xG g = true
  · obtain ⟨j, hj, rfl⟩ := xG_of h
    rw [(R_mt0 R hj).1]
  · rw [Bool.not_eq_true] at h
    rw [h]; rfl
theorem R_prb (R : Rel k tm fN fM fJ fT fC hA rA lT jA pT cF) (g q : Int32) : xPrB tm fJ g q = mPrB tm jA pT g q := by
  unfold xPrB mPrB
  rw [br_eq]
  by_cases h : mBr g q = true
  · rw [(R_tl0 R h).1]
  · rw [Bool.not_eq_true] at h
    rw [h]; rfl
end ANS
end
section
-- the relation behind each call that writes
section UPD
variable {k : Nat} {tm : Int32} {fN fM fJ fT fC hA rA lT jA pT cF : Nat → Int32}
theorem upd_s {f : Nat → Int32} {i j : Nat} {x : Int32} (h : i = j) : upd f j x i = x := by subst h; exact pk_us
theorem R_tick (R : Rel k tm fN fM fJ fT fC hA rA lT jA pT cF) (n : Int32) : Rel k (xTickT tm n) fN fM fJ fT fC hA rA lT jA pT cF := by
  obtain ⟨hk, ⟨T, hT, rfl⟩, h⟩ := R
  refine ⟨hk, ?_, h⟩
  unfold xTickT
  by_cases hb : xTickB (nI T) n = true
  · rw [if_pos hb]; exact ⟨T, hT, rfl⟩
  · rw [if_neg hb]
    rw [Bool.not_eq_true] at hb
    unfold xTickB at hb
    simp only [Bool.or_eq_false_iff, decide_eq_false_iff_not, Bool.not_eq_false', decide_eq_true_eq] at hb
    obtain ⟨⟨h1, h2⟩, h3⟩ := hb
    have h0 : ¬ n < 0 := by
      rw [toI_lt] at h1 ⊢
      rw [show (1 : Int32).toInt = 1 by decide] at h1
      rw [show (0 : Int32).toInt = 0 by decide]
      omega
    obtain ⟨j, hj, rfl⟩ := nI_of h0
    have hj2 : j ≤ 100 := by
      rcases Nat.lt_or_ge 100 j with q | q
      · exact absurd (nI_lt (a := 100) q hj) h2
      · exact q
    refine ⟨T + j, ?_, nI_add T j⟩
    rw [nI_add] at h3
    exact (nI_leI (b := 100000) (by omega) (by decide)).mp h3
theorem R_hello (R : Rel k tm fN fM fJ fT fC hA rA lT jA pT cF) (n : Int32) : Rel k tm (xHeN (nI k) tm fN n) fM fJ fT fC (mHeA (nI k) tm hA n) rA lT jA pT cF := by
  unfold xHeN mHeA
  rw [← he_eq]
  by_cases hb : xHeB (nI k) n = true
  · rw [if_pos hb, if_pos hb]; exact R
  · rw [if_neg hb, if_neg hb]
    rw [Bool.not_eq_true] at hb
    obtain ⟨j, hj, rfl⟩ := vp_in_of (He_in hb) (by decide)
    obtain ⟨hk, ⟨T, hT, rfl⟩, hn, hm, h⟩ := R
    have hjk : k ≠ j := fun e => by
      subst e
      unfold xHeB at hb
      simp at hb
    rw [nI_cl (by omega)]
    refine ⟨hk, ⟨T, hT, rfl⟩, fun i hi => ?_, by rw [pk_un hjk]; exact hm, h⟩
    by_cases e : i = j
    · subst e
      rw [pk_us, pk_us]
      exact Or.inr ⟨T, hT, rfl, nI_add T 65⟩
    · rw [pk_un e, pk_un e]; exact hn i hi
theorem R_report (R : Rel k tm fN fM fJ fT fC hA rA lT jA pT cF) (g : Int32) : Rel k tm fN (xReM tm fM g) fJ fT fC hA (mReA tm rA g) (mReT lT g) jA pT cF := by
  unfold xReM mReA mReT
  by_cases hb : xG g = true
  · rw [if_pos hb, if_pos hb, if_pos hb]
    obtain ⟨j, hj, rfl⟩ := xG_of hb
    obtain ⟨hk, ⟨T, hT, rfl⟩, hn, hm, hM, h⟩ := R
    rw [nI_cl (by omega)]
    refine ⟨hk, ⟨T, hT, rfl⟩, hn, hm, fun i hi => ?_, h⟩
    by_cases e : i = j
    · subst e
      rw [pk_us, pk_us, pk_us]
      exact Or.inr ⟨T, 1000000, hT, Nat.le_refl _, rfl, rfl, by rw [Nat.min_eq_left (by omega)]; exact nI_add T 60⟩
    · rw [pk_un e, pk_un e, pk_un e]; exact hM i hi
  · rw [if_neg hb, if_neg hb, if_neg hb]; exact R
/-- a span is cut short on both sides -/
theorem tl_min {sp : Nat} {x a u : Int32} {T E : Nat} (hT : T ≤ 100000) (hs : sp ≤ 1000) (hE : E ≤ 100010) (h : tlRel sp x a u) (hst : xSt (nI T) x = true) : tlRel sp (xMin x (nI E)) a (mMin (nI E) u) := by
  rcases h with ⟨rfl, rfl⟩ | ⟨t, v, ht, hv, rfl, rfl, rfl⟩
  · rw [show (0 : Int32) = nI 0 from rfl, xSt_nI (by omega) (by decide)] at hst
    simp at hst
  · refine Or.inr ⟨t, min E v, ht, by omega, rfl, ?_, ?_⟩
    · unfold mMin
      by_cases h : v ≤ E
      · rw [if_pos ((nI_leI (by omega) (by omega)).mpr h), Nat.min_eq_right h]
      · rw [if_neg (fun q => h ((nI_leI (by omega) (by omega)).mp q)), Nat.min_eq_left (by omega)]
    · unfold xMin
      by_cases h : E < min (t + sp) v
      · rw [if_pos ((nI_ltI (by omega) (by omega)).mpr h), show min (t + sp) (min E v) = E by omega]
      · rw [if_neg (fun q => h ((nI_ltI (by omega) (by omega)).mp q)), show min (t + sp) (min E v) = min (t + sp) v by omega]
theorem R_leave (R : Rel k tm fN fM fJ fT fC hA rA lT jA pT cF) (g : Int32) : Rel k tm fN (xLeM (nI k) tm fN fM g) fJ fT fC hA rA (mLeT (nI k) tm hA rA lT g) jA pT cF := by
  have e := R_leb R g
  unfold xLeM mLeT
  rw [← e]
  by_cases hb : xLeB (nI k) tm fN fM g = true
  · rw [if_pos hb, if_pos hb]
    unfold xLeB at hb
    simp only [Bool.and_eq_true] at hb
    obtain ⟨⟨hg, hst⟩, -⟩ := hb
    obtain ⟨j, hj, rfl⟩ := xG_of hg
    obtain ⟨hk, ⟨T, hT, rfl⟩, hn, hm, hM, h⟩ := R
    rw [nI_cl (by omega)] at hst ⊢
    refine ⟨hk, ⟨T, hT, rfl⟩, hn, hm, fun i hi => ?_, h⟩
    by_cases e : i = j
    · subst e
      rw [pk_us, pk_us]
      have e4 : nI T + 4 = nI (T + 4) := nI_add T 4
      rw [e4]
      exact tl_min hT (by decide) (by omega) (hM i hi) hst
    · rw [pk_un e, pk_un e]; exact hM i hi
  · rw [if_neg hb, if_neg hb]; exact R
theorem pm_inj {g e g' e' : Nat} (he : e < 17) (he' : e' < 17) (h : pm g e = pm g' e') : g = g' ∧ e = e' := by
  unfold pm at h
  have h1 := Nat.mod_lt (e + 1) (show 0 < 17 by decide)
  have h2 := Nat.mod_lt (e' + 1) (show 0 < 17 by decide)
  have : g = g' := by omega
  refine ⟨this, ?_⟩
  omega
theorem R_prune (R : Rel k tm fN fM fJ fT fC hA rA lT jA pT cF) (g q : Int32) : Rel k tm fN fM (xPrJ tm fN fJ g q) fT fC hA rA lT jA (mPrP tm hA jA pT g q) cF := by
  have e := R_prb R g q
  have e2 := R_eff R
  obtain ⟨E, hE, eE⟩ := R_effn R
  unfold xPrJ mPrP
  rw [← e, ← e2, eE]
  by_cases hb : xPrB tm fJ g q = true
  · rw [if_pos hb, if_pos hb]
    unfold xPrB at hb
    rw [br_eq] at hb
    simp only [Bool.and_eq_true] at hb
    obtain ⟨hg, hst⟩ := hb
    obtain ⟨j, e0, hj, he, -, e1, e3⟩ := place hg
    obtain ⟨hk, ⟨T, hT, rfl⟩, hn, hm, hM, hJ, h⟩ := R
    rw [e1] at hst ⊢
    rw [e3]
    refine ⟨hk, ⟨T, hT, rfl⟩, hn, hm, hM, fun i e4 hi he4 => ?_, h⟩
    by_cases ee : i = j ∧ e4 = e0
    · obtain ⟨rfl, rfl⟩ := ee
      rw [pk_us, pk_us]
      exact tl_min hT (by decide) (by omega) (hJ i e4 hi he4) hst
    · rw [pk_un (fun q => ee ⟨by omega, by omega⟩), pk_un (fun q => ee (pm_inj he4 he q))]; exact hJ i e4 hi he4
  · rw [if_neg hb, if_neg hb]; exact R
-- a JOIN for * and the sources that are told
theorem xCuts_at {fr fo : Int32} {j i : Nat} (hj : j < 8) (hi : i < 16) : ∀ n : Nat, n ≤ 16 → xCutsI fC (nI j) fr fo n (j * 16 + i) = (if i < n ∧ bt fr i = true then fo else fC (j * 16 + i))
  | 0, _ => by simp [xCutsI]
  | n + 1, hn => by
    have ih := xCuts_at (fr := fr) (fo := fo) hj hi n (by omega)
    cases hb : xBit fr (nI n) with
    | true =>
      rw [xCutsI_t hb, Cp_nI, nI_cl (by omega)]
      rw [xBit_bt _ (by omega)] at hb
      by_cases e : i = n
      · subst e
        rw [pk_us, if_pos ⟨by omega, hb⟩]
      · rw [pk_un (by omega), ih]
        by_cases h2 : i < n
        · simp [h2, show i < n + 1 by omega]
        · simp [h2, show ¬ i < n + 1 by omega]
    | false =>
      rw [xCutsI_f hb, ih]
      rw [xBit_bt _ (by omega)] at hb
      by_cases e : i = n
      · subst e
        simp [hb]
      · by_cases h2 : i < n
        · simp [h2, show i < n + 1 by omega]
        · simp [h2, show ¬ i < n + 1 by omega]
theorem xCuts_off {fr fo : Int32} {j x : Nat} (hj : j < 8) (hx : ∀ i, i < 16 → x ≠ j * 16 + i) : ∀ n : Nat, n ≤ 16 → xCutsI fC (nI j) fr fo n x = fC x
  | 0, _ => rfl
  | n + 1, hn => by
    have ih := xCuts_off (fr := fr) (fo := fo) hj hx n (by omega)
    cases hb : xBit fr (nI n) with
    | true => rw [xCutsI_t hb, Cp_nI, nI_cl (by omega), pk_un (hx n (by omega)), ih]
    | false => rw [xCutsI_f hb, ih]
def mNew (was : Bool) (bits fo a : Int32) (i : Nat) : Int32 := if bt bits i = true then (if (!was || decide (a = -1)) = true then fo else a) else -1
theorem mCuts_at {was : Bool} {bits fo : Int32} {j i : Nat} (hj : j < 8) (hi : i < 16) : ∀ n : Nat, n ≤ 16 → mCutsI was cF (nI j) bits fo n (j * 16 + i) = (if i < n then mNew was bits fo (cF (j * 16 + i)) i else cF (j * 16 + i))
  | 0, _ => by simp [mCutsI]
  | n + 1, hn => by
    have ih := mCuts_at (was := was) (bits := bits) (fo := fo) hj hi n (by omega)
    have ep : (mCp (nI j) (nI n)).toNatClampNeg = j * 16 + n := by rw [mCp_eq, Cp_nI, nI_cl (by omega)]
    show (if mTold bits n = true then (if (!was || decide (mCutsI was cF (nI j) bits fo n (mCp (nI j) (nI n)).toNatClampNeg = -1)) = true then upd (mCutsI was cF (nI j) bits fo n) (mCp (nI j) (nI n)).toNatClampNeg fo else mCutsI was cF (nI j) bits fo n) else upd (mCutsI was cF (nI j) bits fo n) (mCp (nI j) (nI n)).toNatClampNeg (-1)) (j * 16 + i) = _
    rw [ep, mTold_bt _ (by omega)]
    by_cases e : i = n
    · subst e
      rw [if_neg (Nat.lt_irrefl i)] at ih
      rw [if_pos (Nat.lt_succ_self i), ih]
      unfold mNew
      by_cases h1 : bt bits i = true
      · rw [if_pos h1, if_pos h1]
        by_cases h2 : (!was || decide (cF (j * 16 + i) = -1)) = true
        · rw [if_pos h2, if_pos h2, pk_us]
        · rw [if_neg h2, if_neg h2, ih]
      · rw [if_neg h1, if_neg h1, pk_us]
    · have hne : j * 16 + i ≠ j * 16 + n := by omega
      have e2 : (if i < n + 1 then mNew was bits fo (cF (j * 16 + i)) i else cF (j * 16 + i)) = (if i < n then mNew was bits fo (cF (j * 16 + i)) i else cF (j * 16 + i)) := by
        by_cases h2 : i < n
        · simp [h2, show i < n + 1 by omega]
        · simp [h2, show ¬ i < n + 1 by omega]
      rw [e2, ← ih]
      by_cases h1 : bt bits n = true
      · rw [if_pos h1]
        by_cases h2 : (!was || decide (mCutsI was cF (nI j) bits fo n (j * 16 + n) = -1)) = true
        · rw [if_pos h2, pk_un hne]
        · rw [if_neg h2]
      · rw [if_neg h1, pk_un hne]
theorem mCuts_off {was : Bool} {bits fo : Int32} {j x : Nat} (hj : j < 8) (hx : ∀ i, i < 16 → x ≠ j * 16 + i) : ∀ n : Nat, n ≤ 16 → mCutsI was cF (nI j) bits fo n x = cF x
  | 0, _ => rfl
  | n + 1, hn => by
    have ih := mCuts_off (was := was) (bits := bits) (fo := fo) hj hx n (by omega)
    have ep : (mCp (nI j) (nI n)).toNatClampNeg = j * 16 + n := by rw [mCp_eq, Cp_nI, nI_cl (by omega)]
    show (if mTold bits n = true then (if (!was || decide (mCutsI was cF (nI j) bits fo n (mCp (nI j) (nI n)).toNatClampNeg = -1)) = true then upd (mCutsI was cF (nI j) bits fo n) (mCp (nI j) (nI n)).toNatClampNeg fo else mCutsI was cF (nI j) bits fo n) else upd (mCutsI was cF (nI j) bits fo n) (mCp (nI j) (nI n)).toNatClampNeg (-1)) x = _
    rw [ep]
    by_cases h1 : mTold bits n = true
    · rw [if_pos h1]
      by_cases h2 : (!was || decide (mCutsI was cF (nI j) bits fo n (j * 16 + n) = -1)) = true
      · rw [if_pos h2, pk_un (hx n (by omega)), ih]
      · rw [if_neg h2, ih]
    · rw [if_neg h1, pk_un (hx n (by omega)), ih]
theorem bt_told {x : Int32} {i : Nat} (hi : i < 16) : bt (x &&& 65535) i = bt x i := by
  rw [b_and, b_65535]; simp [hi]
theorem bt_fresh {x y : Int32} {i : Nat} (hi : i < 16) : bt (x &&& 65535 &&& (y ^^^ (-1))) i = (bt x i && !bt y i) := by
  rw [b_and, bt_told hi, b_xor, b_m1 i (by omega)]; simp
theorem R_cuts (R : Rel k tm fN fM fJ fT fC hA rA lT jA pT cF) {j : Nat} (hj : j < 8) (bits : Int32) : ∀ g i, g < 8 → i < 16 → cuRel (bt (upd fT j (bits &&& 65535) g) i) (xTellC tm fN fJ fT fC (nI j) (bits &&& 65535) (g * 16 + i)) (mCutsI (mWas tm jA pT (nI j) (-1)) cF (nI j) bits (mEff tm (mNb tm hA)) 16 (g * 16 + i)) := by
  intro g i hg hi
  obtain ⟨E, hE, eE⟩ := R_effn R
  have e2 := R_eff R
  have hcu := R.2.2.2.2.2.2
  unfold xTellC
  rw [← e2, eE]
  by_cases e : g = j
  · subst e
    rw [pk_us, bt_told hi, xCuts_at hg hi 16 (by decide), mCuts_at hg hi 16 (by decide), if_pos hi, bt_fresh hi]
    have hs : xStar tm fJ (nI g) = mWas tm jA pT (nI g) (-1) := (R_tl0 R (mBr_st (xG_nI hg))).2.1
    have hold := hcu g i hg hi
    unfold xBefore mNew
    rw [hs, nI_cl (by omega)]
    cases hb : bt bits i with
    | false => exact Or.inl ⟨rfl, rfl⟩
    | true =>
      refine Or.inr ⟨rfl, ?_⟩
      cases hw : mWas tm jA pT (nI g) (-1) with
      | false =>
        refine ⟨E, by omega, ?_, ?_⟩
        · simp
        · rw [if_neg (show ¬ (false = true) by decide), b_0]; simp [hi]
      | true =>
        rw [if_pos (show (true = true) from rfl)]
        rcases hold with ⟨h1, h2⟩ | ⟨h1, t, ht, h2, h3⟩
        · refine ⟨E, by omega, ?_, ?_⟩
          · simp [h2]
          · simp [h1, hi]
        · refine ⟨t, ht, ?_, ?_⟩
          · simp [h2, nI_m1 (t := t) (by omega)]
          · simp [h1, h3]
  · rw [pk_un e, xCuts_off hj (fun i2 hi2 => by omega) 16 (by decide), mCuts_off hj (fun i2 hi2 => by omega) 16 (by decide)]
    exact hcu g i hg hi
theorem R_join (R : Rel k tm fN fM fJ fT fC hA rA lT jA pT cF) (g q bits : Int32) : Rel k tm fN fM (xJoJ tm fJ g q) (xJoT fT g q bits) (xJoC tm fN fJ fT fC g q bits) hA rA lT (mJoA tm jA g q) (mJoP pT g q) (mJoC tm hA jA pT cF g q bits) := by
  have es : xJoS g q = mJoS g q := by unfold xJoS mJoS; rw [br_eq]
  have hcut : ∀ g2 i, g2 < 8 → i < 16 → cuRel (bt (xJoT fT g q bits g2) i) (xJoC tm fN fJ fT fC g q bits (g2 * 16 + i)) (mJoC tm hA jA pT cF g q bits (g2 * 16 + i)) := by
    intro g2 i hg2 hi
    unfold xJoT xJoC mJoC
    rw [es]
    by_cases hb : mJoS g q = true
    · rw [if_pos hb, if_pos hb, if_pos hb]
      unfold mJoS at hb
      simp only [Bool.and_eq_true, decide_eq_true_eq] at hb
      obtain ⟨hbr, rfl⟩ := hb
      obtain ⟨j, hj, rfl⟩ := xG_of (mBr_G hbr)
      rw [nI_cl (by omega)]
      exact R_cuts R hj bits g2 i hg2 hi
    · rw [if_neg hb, if_neg hb, if_neg hb]
      exact R.2.2.2.2.2.2 g2 i hg2 hi
  obtain ⟨hk, ⟨T, hT, rfl⟩, hn, hm, hM, hJ, hC⟩ := R
  refine ⟨hk, ⟨T, hT, rfl⟩, hn, hm, hM, ?_, hcut⟩
  unfold xJoJ mJoA mJoP
  rw [br_eq]
  by_cases hb : mBr g q = true
  · rw [if_pos hb, if_pos hb, if_pos hb]
    obtain ⟨j, e0, hj, he, -, e1, e3⟩ := place hb
    rw [e1, e3]
    intro i e4 hi he4
    by_cases ee : i = j ∧ e4 = e0
    · obtain ⟨rfl, rfl⟩ := ee
      rw [pk_us, pk_us, pk_us]
      exact Or.inr ⟨T, 1000000, hT, Nat.le_refl _, rfl, rfl, by rw [Nat.min_eq_left (by omega)]; exact nI_add T 70⟩
    · rw [pk_un (fun q => ee ⟨by omega, by omega⟩), pk_un (fun q => ee (pm_inj he4 he q)), pk_un (fun q => ee (pm_inj he4 he q))]; exact hJ i e4 hi he4
  · rw [if_neg hb, if_neg hb, if_neg hb]; exact hJ
theorem R_blank {gN gM gJ gT gC bA bR bL bJ bP bC : Nat → Int32} (hk : k < 10) (ht : ∃ T : Nat, T ≤ 100000 ∧ tm = nI T) (h1 : ∀ n, n < 10 → gN n = 0 ∧ bA n = -1) (h2 : ∀ g, g < 8 → gM g = 0 ∧ bR g = -1) (h3 : ∀ n, n < 136 → gJ n = 0 ∧ bJ n = -1) (h4 : ∀ g, g < 8 → gT g = 0) (h5 : ∀ n, n < 128 → bC n = -1) : Rel k tm gN gM gJ gT gC bA bR bL bJ bP bC :=
  ⟨hk, ht, fun n hn => Or.inl ⟨(h1 n hn).2, (h1 n hn).1⟩, (h1 k hk).2, fun g hg => Or.inl ⟨(h2 g hg).2, (h2 g hg).1⟩, fun g e hg he => Or.inl ⟨(h3 _ (pm_lt hg)).2, (h3 _ (by omega)).1⟩, fun g i hg hi => Or.inl ⟨by rw [h4 g hg]; exact b_0 i, h5 _ (by omega)⟩⟩
theorem R_forget (R : Rel k tm fN fM fJ fT fC hA rA lT jA pT cF) : Rel k tm (fillI fN (0 : Int32) 10) (fillI fM (0 : Int32) 8) (fillI fJ (0 : Int32) 136) (fillI fT (0 : Int32) 8) (fillI fC (0 : Int32) 128) (fillI hA (-1 : Int32) 10) (fillI rA (-1 : Int32) 8) lT (fillI jA (-1 : Int32) 136) pT (fillI cF (-1 : Int32) 128) :=
  R_blank R.1 R.2.1 (fun n hn => ⟨fill_lt hn, fill_lt hn⟩) (fun n hn => ⟨fill_lt hn, fill_lt hn⟩) (fun n hn => ⟨fill_lt hn, fill_lt hn⟩) (fun n hn => fill_lt hn) (fun n hn => fill_lt hn)
theorem R_start {k : Nat} (hk : k < 10) : Rel k 0 (fun _ => 0) (fun _ => 0) (fun _ => 0) (fun _ => 0) (fun _ => 0) (fillI (fun _ => 0) (-1 : Int32) 10) (fillI (fun _ => 0) (-1 : Int32) 8) (fun _ => 0) (fillI (fun _ => 0) (-1 : Int32) 136) (fun _ => 0) (fillI (fun _ => 0) (-1 : Int32) 128) :=
  R_blank hk ⟨0, by decide, rfl⟩ (fun n hn => ⟨rfl, fill_lt hn⟩) (fun n hn => ⟨rfl, fill_lt hn⟩) (fun n hn => ⟨rfl, fill_lt hn⟩) (fun n hn => rfl) (fun n hn => fill_lt hn)
theorem me_of (me : Int32) : ∃ k : Nat, k < 10 ∧ xMe0 me = nI k ∧ mMe0 me = nI k := by
  rcases pk_ix me (n := 10) (by decide) with a | a | ⟨j, hj, rfl⟩
  · refine ⟨0, by decide, ?_, ?_⟩
    · unfold xMe0 xMin xMax
      rw [toI_lt, show (0 : Int32).toInt = 0 by decide] at a
      have h1 : me < 9 := by rw [toI_lt, show (9 : Int32).toInt = 9 by decide]; omega
      have h2 : ¬ (0 : Int32) < me := by rw [toI_lt, show (0 : Int32).toInt = 0 by decide]; omega
      rw [if_pos h1, if_neg h2]; rfl
    · unfold mMe0
      rw [toI_lt, show (0 : Int32).toInt = 0 by decide] at a
      have h2 : ¬ (0 : Int32) ≤ me := by rw [toI_le, show (0 : Int32).toInt = 0 by decide]; omega
      rw [if_neg h2]; rfl
  · refine ⟨9, by decide, ?_, ?_⟩
    · unfold xMe0 xMin xMax
      rw [toI_le, show (nI 10).toInt = 10 by decide] at a
      have h1 : ¬ me < 9 := by rw [toI_lt, show (9 : Int32).toInt = 9 by decide]; omega
      rw [if_neg h1]; rfl
    · unfold mMe0
      rw [toI_le, show (nI 10).toInt = 10 by decide] at a
      have h1 : (0 : Int32) ≤ me := by rw [toI_le, show (0 : Int32).toInt = 0 by decide]; omega
      have h2 : ¬ me ≤ 9 := by rw [toI_le, show (9 : Int32).toInt = 9 by decide]; omega
      rw [if_pos h1, if_neg h2]; rfl
  · exact ⟨j, hj, co_dec (N := 10) (P := fun j => xMe0 (nI j) = nI j) (by decide +kernel) hj, co_dec (N := 10) (P := fun j => mMe0 (nI j) = nI j) (by decide +kernel) hj⟩
end UPD
end
section
/-! THE CLAIM OUT OF ONE WALK OF THE LAW'S BODY. Your part is whole_start (and what it stands on); all else here is the same for every law, but numbers. -/
def R_law : String := "BranchTimesLaw"
def lw_P (b : Addr) (xs : List Int32) (args : Array Value) (s : State) : Prop := args = #[.ref b] ∧ s.IntsAt b xs ∧ xs.length ≤ 2049 ∧ (Jvm.Cond.and given_1 narrow_1).before args s = true
def lw_Q (_ : Array Value) (s : State) (o : Outcome) (t : State) : Prop := o = .returned (some (.int 1)) ∧ Framed s o t [] 13 731
def lw_Z (below : List Frame) (a : Array Value) (s : State) : State → Prop := fun t => ∃ o, t.status = .running ∧ Ended t below o ∧ lw_Q a s o t
/-- the law's own end, with 1 on the stack, nothing written that was there before, its room as the claim has it -/
theorem lw_ret {p : Program} {l : Launch} {e : Env} {s : State} {m : MethodId} {below : List Frame} {meth : Method} {c : Code} {b : Nat} (hx : p.tables.exec = Jvm.exec) (hb : c.code = code) (hr : meth.sig.returnType = ret) (hlocks : meth.locks = false) {pc : Nat} {H : Heap} {ls : Array Slot} (hdg : decode code pc = .ok (.ireturn, 1)) : W p l e room_1 s m #[Value.ref b] below meth c H [] 13 731 (lw_Z below #[Value.ref b] s) (F0 m pc ls [.int 1]) := by
  intro T hT X
  obtain ⟨fs, hret, hrun, hended, hW, hframe⟩ := X.leave (v := some (.int 1)) (hlocks := hlocks) (fun h => by rw [hr] at h; cases h)
  have hmeth' : T.vm.method? m = some meth := X.method'
  refine ⟨T.setFrames fs, ?_, .returned (some (.int 1)), hrun, hended, rfl, ⟨_, rfl⟩, hW, hframe⟩
  jvm_step X.here [X.here.top, hx, hb, hdg, hmeth', hr, ret, narrow_b1]
  (try refine ⟨rfl, ?_⟩); (try refine ⟨rfl, ?_⟩)
  first | (intro acts; rw [hret _ acts rfl rfl rfl]) | rw [hret _ _ rfl rfl rfl]
  exact Steps.refl _
/-- what holds at the law's entry: the machine, the code, the tables' words (any of lw_tbl by 'hts w (by decide +kernel)'), the script of L ints xs at the cell b, what the Statement gives of the start (any of its parts by flat_of_before) -/
def lw_At (p : Program) (s : State) (m : MethodId) (meth : Method) (c : Code) (b L : Nat) (xs : Nat → Int32) : Prop :=
  p.tables.exec = Jvm.exec ∧ c.code = code ∧ meth.sig.returnType = ret ∧ c.maxLocals = 4 ∧ s.vm.findClass R_law = some m.cls ∧ (∀ w ∈ lw_tbl, w.before #[Value.ref b] s = true) ∧ va_X b L xs s s.heap ∧ b < s.heap.size ∧ meth.locks = false ∧ (Jvm.Cond.and given_1 narrow_1).before #[Value.ref b] s = true
end
section
set_option maxHeartbeats 4000000 in
set_option maxRecDepth 100000 in
theorem law_tick {p : Program} {e : Env} {s : State} {m : MethodId} {below : List Frame} {meth : Method} {c : Code} {l : Launch} {b L : Nat} {xs : Nat → Int32} (hL : L ≤ 2049) (C0 : lw_At p s m meth c b L xs) {dC : Nat → ClassId} {dI : Nat → Nat → Nat} {h1 a1 a2 a3 a4 a5 h2 b1 b2 b3 b4 b5 b6 : Nat} {cA : ClassId} {k i : Nat} (hi : i + 4 ≤ L) (hK : va_K (dC, dI) vwCl [(cA, .int)] s) (back : ∀ (tm : Int32) (fN fM fJ fT fC hA rA lT jA pT cF : Nat → Int32), Rel k tm fN fM fJ fT fC hA rA lT jA pT cF → ∀ (H : Heap) (locs : List Loc) (ls : Array Slot), va_P (dC, dI) vwCl (wX h1 a1 a2 a3 a4 a5 cA (nI k) tm fN fM fJ fT fC ++ wM h2 b1 b2 b3 b4 b5 b6 cA (nI k) tm hA rA lT jA pT cF) H → va_D (fun q : Nat => s.heap.size ≤ q) (wX h1 a1 a2 a3 a4 a5 cA (nI k) tm fN fM fJ fT fC ++ wM h2 b1 b2 b3 b4 b5 b6 cA (nI k) tm hA rA lT jA pT cF) → va_S (fun q : Nat => s.heap.size ≤ q) s.heap H locs → lv_has ls 4 [(0, .ref b), (1, .ref h1), (2, .ref h2), (3, .int (nI i))] → W p l e room_1 s m #[Value.ref b] below meth c H locs 13 731 (lw_Z below #[Value.ref b] s) (F0 m 418 ls [])) (tm : Int32) (fN fM fJ fT fC hA rA lT jA pT cF : Nat → Int32) (R : Rel k tm fN fM fJ fT fC hA rA lT jA pT cF) (H : Heap) (locs : List Loc) (ls : Array Slot) (hP : va_P (dC, dI) vwCl (wX h1 a1 a2 a3 a4 a5 cA (nI k) tm fN fM fJ fT fC ++ wM h2 b1 b2 b3 b4 b5 b6 cA (nI k) tm hA rA lT jA pT cF) H) (hD : va_D (fun q : Nat => s.heap.size ≤ q) (wX h1 a1 a2 a3 a4 a5 cA (nI k) tm fN fM fJ fT fC ++ wM h2 b1 b2 b3 b4 b5 b6 cA (nI k) tm hA rA lT jA pT cF)) (hS : va_S (fun q : Nat => s.heap.size ≤ q) s.heap H locs) (hl : lv_has ls 4 [(0, .ref b), (1, .ref h1), (2, .ref h2), (3, .int (nI i))]) : W p l e room_1 s m #[Value.ref b] below meth c H locs 13 731 (lw_Z below #[Value.ref b] s) (F0 m 104 ls []) := by
  obtain ⟨hx, hb, hr, hml, hown, hts, hX, hbl, hlocks, hgv⟩ := id C0
  have hb : c.code = cL_law := hb
  have hown : s.vm.findClass RL = some m.cls := hown
  have hts : ∀ w ∈ wsL_law, w.before #[Value.ref b] s = true := fun w h => hts w (wsL_law_in w h)
  have S : CallFix p m c cL_law 4 s #[Value.ref b] wsL_law RL := ⟨hx, hb, hml, hown, hts⟩
  have hA9 : ∀ q : Nat, s.heap.size ≤ q → (fun q : Nat => s.heap.size ≤ q) q := fun _ h => h
  have hbA : ¬ (fun q : Nat => s.heap.size ≤ q) b := Nat.not_le.mpr hbl
  obtain ⟨v1, ev1⟩ : ∃ y : Int32, y = xs (i + 1) := ⟨_, rfl⟩
  refine lv_aload_n hx hb dL_law_104 rfl (lv_at hl 1 rfl) ?_
  refine lv_aload_n hx hb dL_law_105 rfl (lv_at hl 0 rfl) ?_
  refine lv_iload_n hx hb dL_law_106 rfl (lv_at hl 3 rfl) ?_
  refine lv_iconst (v := 1) hx hb dL_law_107 (by decide) ?_
  refine lv_iadd hx hb dL_law_108 ?_
  refine lv_top (x' := nI (i + 1)) (nI_add i 1) ?_
  refine va_sld hx hb hX hbl hbA hS (vp_in_nI (by omega) (by omega)) dL_law_109 ?_
  refine lv_top (x' := v1) (by rw [ev1, nI_clamp (by omega)]) ?_
  refine wr_Vi (As := [.int v1]) (rest := []) (ci := 0) (qc := (RX0, TX0, 7)) (wr := wM h2 b1 b2 b3 b4 b5 b6 cA (nI k) tm hA rA lT jA pT cF) (A0 := (fun q : Nat => s.heap.size ≤ q)) S (c_X0_tick l dC dI h1 a1 a2 a3 a4 a5 cA (nI k) tm fN fM fJ fT fC v1 _) gL_law_X0_tick rfl ⟨rfl, rfl⟩ hd_X0_tick ⟨Nat.le_of_ble_eq_true rfl, Nat.le_of_ble_eq_true rfl⟩ hK hP hD hS hA9 [0, 1, 2, 3, 4, 5] [6, 7, 8, 9, 10, 11, 12] rfl rfl (by decide) (by decide) (by decide) rfl rfl rfl rfl hl.1 rfl (Nat.le_of_ble_eq_true rfl) dL_law_110 ⟨Nat.le_of_ble_eq_true rfl, Nat.le_of_ble_eq_true rfl⟩ (fun H locs hP hD hS => ?_)
  have hP : va_P (dC, dI) vwCl (wM h2 b1 b2 b3 b4 b5 b6 cA (nI k) tm hA rA lT jA pT cF ++ wX h1 a1 a2 a3 a4 a5 cA (nI k) (xTickT tm v1) fN fM fJ fT fC) H := hP
  have hD : va_D (fun q : Nat => s.heap.size ≤ q) (wM h2 b1 b2 b3 b4 b5 b6 cA (nI k) tm hA rA lT jA pT cF ++ wX h1 a1 a2 a3 a4 a5 cA (nI k) (xTickT tm v1) fN fM fJ fT fC) := hD
  refine lv_aload_n hx hb dL_law_113 rfl (lv_at hl 2 rfl) ?_
  refine lv_aload_n hx hb dL_law_114 rfl (lv_at hl 0 rfl) ?_
  refine lv_iload_n hx hb dL_law_115 rfl (lv_at hl 3 rfl) ?_
  refine lv_iconst (v := 1) hx hb dL_law_116 (by decide) ?_
  refine lv_iadd hx hb dL_law_117 ?_
  refine lv_top (x' := nI (i + 1)) (nI_add i 1) ?_
  refine va_sld hx hb hX hbl hbA hS (vp_in_nI (by omega) (by omega)) dL_law_118 ?_
  refine lv_top (x' := v1) (by rw [ev1, nI_clamp (by omega)]) ?_
  refine wr_Vi (As := [.int v1]) (rest := [.int (xTickR tm v1)]) (ci := 1) (qc := (RX1, TX1, 8)) (wr := wX h1 a1 a2 a3 a4 a5 cA (nI k) (xTickT tm v1) fN fM fJ fT fC) (A0 := (fun q : Nat => s.heap.size ≤ q)) S (c_X1_tick l dC dI h2 b1 b2 b3 b4 b5 b6 cA (nI k) tm hA rA lT jA pT cF v1 _) gL_law_X1_tick rfl ⟨rfl, rfl⟩ hd_X1_tick ⟨Nat.le_of_ble_eq_true rfl, Nat.le_of_ble_eq_true rfl⟩ hK hP hD hS hA9 [0, 1, 2, 3, 4, 5, 6] [7, 8, 9, 10, 11, 12] rfl rfl (by decide) (by decide) (by decide) rfl rfl rfl rfl hl.1 rfl (Nat.le_of_ble_eq_true rfl) dL_law_119 ⟨Nat.le_of_ble_eq_true rfl, Nat.le_of_ble_eq_true rfl⟩ (fun H locs hP hD hS => ?_)
  have hP : va_P (dC, dI) vwCl (wX h1 a1 a2 a3 a4 a5 cA (nI k) (xTickT tm v1) fN fM fJ fT fC ++ wM h2 b1 b2 b3 b4 b5 b6 cA (nI k) (xTickT tm v1) hA rA lT jA pT cF) H := hP
  have hD : va_D (fun q : Nat => s.heap.size ≤ q) (wX h1 a1 a2 a3 a4 a5 cA (nI k) (xTickT tm v1) fN fM fJ fT fC ++ wM h2 b1 b2 b3 b4 b5 b6 cA (nI k) (xTickT tm v1) hA rA lT jA pT cF) := hD
  refine lv_icmp_eq (tgt := 418) hx hb dL_law_122 (by decide) (fun c9 => ?_) (fun c9 => ?_)
  · exact back (xTickT tm v1) fN fM fJ fT fC hA rA lT jA pT cF (R_tick R v1) _ _ ls hP hD hS hl
  · exact absurd (show xTickR tm v1 = xTickR tm v1 from rfl) c9
set_option maxHeartbeats 4000000 in
set_option maxRecDepth 100000 in
theorem law_hello {p : Program} {e : Env} {s : State} {m : MethodId} {below : List Frame} {meth : Method} {c : Code} {l : Launch} {b L : Nat} {xs : Nat → Int32} (hL : L ≤ 2049) (C0 : lw_At p s m meth c b L xs) {dC : Nat → ClassId} {dI : Nat → Nat → Nat} {h1 a1 a2 a3 a4 a5 h2 b1 b2 b3 b4 b5 b6 : Nat} {cA : ClassId} {k i : Nat} (hi : i + 4 ≤ L) (hK : va_K (dC, dI) vwCl [(cA, .int)] s) (back : ∀ (tm : Int32) (fN fM fJ fT fC hA rA lT jA pT cF : Nat → Int32), Rel k tm fN fM fJ fT fC hA rA lT jA pT cF → ∀ (H : Heap) (locs : List Loc) (ls : Array Slot), va_P (dC, dI) vwCl (wX h1 a1 a2 a3 a4 a5 cA (nI k) tm fN fM fJ fT fC ++ wM h2 b1 b2 b3 b4 b5 b6 cA (nI k) tm hA rA lT jA pT cF) H → va_D (fun q : Nat => s.heap.size ≤ q) (wX h1 a1 a2 a3 a4 a5 cA (nI k) tm fN fM fJ fT fC ++ wM h2 b1 b2 b3 b4 b5 b6 cA (nI k) tm hA rA lT jA pT cF) → va_S (fun q : Nat => s.heap.size ≤ q) s.heap H locs → lv_has ls 4 [(0, .ref b), (1, .ref h1), (2, .ref h2), (3, .int (nI i))] → W p l e room_1 s m #[Value.ref b] below meth c H locs 13 731 (lw_Z below #[Value.ref b] s) (F0 m 418 ls [])) (tm : Int32) (fN fM fJ fT fC hA rA lT jA pT cF : Nat → Int32) (R : Rel k tm fN fM fJ fT fC hA rA lT jA pT cF) (H : Heap) (locs : List Loc) (ls : Array Slot) (hP : va_P (dC, dI) vwCl (wX h1 a1 a2 a3 a4 a5 cA (nI k) tm fN fM fJ fT fC ++ wM h2 b1 b2 b3 b4 b5 b6 cA (nI k) tm hA rA lT jA pT cF) H) (hD : va_D (fun q : Nat => s.heap.size ≤ q) (wX h1 a1 a2 a3 a4 a5 cA (nI k) tm fN fM fJ fT fC ++ wM h2 b1 b2 b3 b4 b5 b6 cA (nI k) tm hA rA lT jA pT cF)) (hS : va_S (fun q : Nat => s.heap.size ≤ q) s.heap H locs) (hl : lv_has ls 4 [(0, .ref b), (1, .ref h1), (2, .ref h2), (3, .int (nI i))]) : W p l e room_1 s m #[Value.ref b] below meth c H locs 13 731 (lw_Z below #[Value.ref b] s) (F0 m 127 ls []) := by
  obtain ⟨hx, hb, hr, hml, hown, hts, hX, hbl, hlocks, hgv⟩ := id C0
  have hb : c.code = cL_law := hb
  have hown : s.vm.findClass RL = some m.cls := hown
  have hts : ∀ w ∈ wsL_law, w.before #[Value.ref b] s = true := fun w h => hts w (wsL_law_in w h)
  have S : CallFix p m c cL_law 4 s #[Value.ref b] wsL_law RL := ⟨hx, hb, hml, hown, hts⟩
  have hA9 : ∀ q : Nat, s.heap.size ≤ q → (fun q : Nat => s.heap.size ≤ q) q := fun _ h => h
  have hbA : ¬ (fun q : Nat => s.heap.size ≤ q) b := Nat.not_le.mpr hbl
  obtain ⟨v1, ev1⟩ : ∃ y : Int32, y = xs (i + 1) := ⟨_, rfl⟩
  refine lv_aload_n hx hb dL_law_127 rfl (lv_at hl 1 rfl) ?_
  refine lv_aload_n hx hb dL_law_128 rfl (lv_at hl 0 rfl) ?_
  refine lv_iload_n hx hb dL_law_129 rfl (lv_at hl 3 rfl) ?_
  refine lv_iconst (v := 1) hx hb dL_law_130 (by decide) ?_
  refine lv_iadd hx hb dL_law_131 ?_
  refine lv_top (x' := nI (i + 1)) (nI_add i 1) ?_
  refine va_sld hx hb hX hbl hbA hS (vp_in_nI (by omega) (by omega)) dL_law_132 ?_
  refine lv_top (x' := v1) (by rw [ev1, nI_clamp (by omega)]) ?_
  refine wr_Vi (As := [.int v1]) (rest := []) (ci := 0) (qc := (RX0, TX0, 7)) (wr := wM h2 b1 b2 b3 b4 b5 b6 cA (nI k) tm hA rA lT jA pT cF) (A0 := (fun q : Nat => s.heap.size ≤ q)) S (c_X0_hello l dC dI h1 a1 a2 a3 a4 a5 cA (nI k) tm fN fM fJ fT fC v1 _) gL_law_X0_hello rfl ⟨rfl, rfl⟩ hd_X0_hello ⟨Nat.le_of_ble_eq_true rfl, Nat.le_of_ble_eq_true rfl⟩ hK hP hD hS hA9 [0, 1, 2, 3, 4, 5] [6, 7, 8, 9, 10, 11, 12] rfl rfl (by decide) (by decide) (by decide) rfl rfl rfl rfl hl.1 rfl (Nat.le_of_ble_eq_true rfl) dL_law_133 ⟨Nat.le_of_ble_eq_true rfl, Nat.le_of_ble_eq_true rfl⟩ (fun H locs hP hD hS => ?_)
  have hP : va_P (dC, dI) vwCl (wM h2 b1 b2 b3 b4 b5 b6 cA (nI k) tm hA rA lT jA pT cF ++ wX h1 a1 a2 a3 a4 a5 cA (nI k) tm (xHeN ((nI k)) tm fN v1) fM fJ fT fC) H := hP
  have hD : va_D (fun q : Nat => s.heap.size ≤ q) (wM h2 b1 b2 b3 b4 b5 b6 cA (nI k) tm hA rA lT jA pT cF ++ wX h1 a1 a2 a3 a4 a5 cA (nI k) tm (xHeN ((nI k)) tm fN v1) fM fJ fT fC) := hD
  refine lv_aload_n hx hb dL_law_136 rfl (lv_at hl 2 rfl) ?_
  refine lv_aload_n hx hb dL_law_137 rfl (lv_at hl 0 rfl) ?_
  refine lv_iload_n hx hb dL_law_138 rfl (lv_at hl 3 rfl) ?_
  refine lv_iconst (v := 1) hx hb dL_law_139 (by decide) ?_
  refine lv_iadd hx hb dL_law_140 ?_
  refine lv_top (x' := nI (i + 1)) (nI_add i 1) ?_
  refine va_sld hx hb hX hbl hbA hS (vp_in_nI (by omega) (by omega)) dL_law_141 ?_
  refine lv_top (x' := v1) (by rw [ev1, nI_clamp (by omega)]) ?_
  refine wr_Vi (As := [.int v1]) (rest := [.int (bI (!xHeB (nI k) v1))]) (ci := 1) (qc := (RX1, TX1, 8)) (wr := wX h1 a1 a2 a3 a4 a5 cA (nI k) tm (xHeN ((nI k)) tm fN v1) fM fJ fT fC) (A0 := (fun q : Nat => s.heap.size ≤ q)) S (c_X1_hello l dC dI h2 b1 b2 b3 b4 b5 b6 cA (nI k) tm hA rA lT jA pT cF v1 _) gL_law_X1_hello rfl ⟨rfl, rfl⟩ hd_X1_hello ⟨Nat.le_of_ble_eq_true rfl, Nat.le_of_ble_eq_true rfl⟩ hK hP hD hS hA9 [0, 1, 2, 3, 4, 5, 6] [7, 8, 9, 10, 11, 12] rfl rfl (by decide) (by decide) (by decide) rfl rfl rfl rfl hl.1 rfl (Nat.le_of_ble_eq_true rfl) dL_law_142 ⟨Nat.le_of_ble_eq_true rfl, Nat.le_of_ble_eq_true rfl⟩ (fun H locs hP hD hS => ?_)
  have hP : va_P (dC, dI) vwCl (wX h1 a1 a2 a3 a4 a5 cA (nI k) tm (xHeN ((nI k)) tm fN v1) fM fJ fT fC ++ wM h2 b1 b2 b3 b4 b5 b6 cA (nI k) tm (mHeA ((nI k)) tm hA v1) rA lT jA pT cF) H := hP
  have hD : va_D (fun q : Nat => s.heap.size ≤ q) (wX h1 a1 a2 a3 a4 a5 cA (nI k) tm (xHeN ((nI k)) tm fN v1) fM fJ fT fC ++ wM h2 b1 b2 b3 b4 b5 b6 cA (nI k) tm (mHeA ((nI k)) tm hA v1) rA lT jA pT cF) := hD
  refine lv_icmp_eq (tgt := 418) hx hb dL_law_145 (by decide) (fun c9 => ?_) (fun c9 => ?_)
  · exact back tm (xHeN ((nI k)) tm fN v1) fM fJ fT fC (mHeA ((nI k)) tm hA v1) rA lT jA pT cF (R_hello R v1) _ _ ls hP hD hS hl
  · exact absurd (show bI (!xHeB (nI k) v1) = bI (!mHeB (nI k) v1) from by rw [he_eq]) c9
set_option maxHeartbeats 4000000 in
set_option maxRecDepth 100000 in
theorem law_report {p : Program} {e : Env} {s : State} {m : MethodId} {below : List Frame} {meth : Method} {c : Code} {l : Launch} {b L : Nat} {xs : Nat → Int32} (hL : L ≤ 2049) (C0 : lw_At p s m meth c b L xs) {dC : Nat → ClassId} {dI : Nat → Nat → Nat} {h1 a1 a2 a3 a4 a5 h2 b1 b2 b3 b4 b5 b6 : Nat} {cA : ClassId} {k i : Nat} (hi : i + 4 ≤ L) (hK : va_K (dC, dI) vwCl [(cA, .int)] s) (back : ∀ (tm : Int32) (fN fM fJ fT fC hA rA lT jA pT cF : Nat → Int32), Rel k tm fN fM fJ fT fC hA rA lT jA pT cF → ∀ (H : Heap) (locs : List Loc) (ls : Array Slot), va_P (dC, dI) vwCl (wX h1 a1 a2 a3 a4 a5 cA (nI k) tm fN fM fJ fT fC ++ wM h2 b1 b2 b3 b4 b5 b6 cA (nI k) tm hA rA lT jA pT cF) H → va_D (fun q : Nat => s.heap.size ≤ q) (wX h1 a1 a2 a3 a4 a5 cA (nI k) tm fN fM fJ fT fC ++ wM h2 b1 b2 b3 b4 b5 b6 cA (nI k) tm hA rA lT jA pT cF) → va_S (fun q : Nat => s.heap.size ≤ q) s.heap H locs → lv_has ls 4 [(0, .ref b), (1, .ref h1), (2, .ref h2), (3, .int (nI i))] → W p l e room_1 s m #[Value.ref b] below meth c H locs 13 731 (lw_Z below #[Value.ref b] s) (F0 m 418 ls [])) (tm : Int32) (fN fM fJ fT fC hA rA lT jA pT cF : Nat → Int32) (R : Rel k tm fN fM fJ fT fC hA rA lT jA pT cF) (H : Heap) (locs : List Loc) (ls : Array Slot) (hP : va_P (dC, dI) vwCl (wX h1 a1 a2 a3 a4 a5 cA (nI k) tm fN fM fJ fT fC ++ wM h2 b1 b2 b3 b4 b5 b6 cA (nI k) tm hA rA lT jA pT cF) H) (hD : va_D (fun q : Nat => s.heap.size ≤ q) (wX h1 a1 a2 a3 a4 a5 cA (nI k) tm fN fM fJ fT fC ++ wM h2 b1 b2 b3 b4 b5 b6 cA (nI k) tm hA rA lT jA pT cF)) (hS : va_S (fun q : Nat => s.heap.size ≤ q) s.heap H locs) (hl : lv_has ls 4 [(0, .ref b), (1, .ref h1), (2, .ref h2), (3, .int (nI i))]) : W p l e room_1 s m #[Value.ref b] below meth c H locs 13 731 (lw_Z below #[Value.ref b] s) (F0 m 150 ls []) := by
  obtain ⟨hx, hb, hr, hml, hown, hts, hX, hbl, hlocks, hgv⟩ := id C0
  have hb : c.code = cL_law := hb
  have hown : s.vm.findClass RL = some m.cls := hown
  have hts : ∀ w ∈ wsL_law, w.before #[Value.ref b] s = true := fun w h => hts w (wsL_law_in w h)
  have S : CallFix p m c cL_law 4 s #[Value.ref b] wsL_law RL := ⟨hx, hb, hml, hown, hts⟩
  have hA9 : ∀ q : Nat, s.heap.size ≤ q → (fun q : Nat => s.heap.size ≤ q) q := fun _ h => h
  have hbA : ¬ (fun q : Nat => s.heap.size ≤ q) b := Nat.not_le.mpr hbl
  obtain ⟨v1, ev1⟩ : ∃ y : Int32, y = xs (i + 1) := ⟨_, rfl⟩
  refine lv_aload_n hx hb dL_law_150 rfl (lv_at hl 1 rfl) ?_
  refine lv_aload_n hx hb dL_law_151 rfl (lv_at hl 0 rfl) ?_
  refine lv_iload_n hx hb dL_law_152 rfl (lv_at hl 3 rfl) ?_
  refine lv_iconst (v := 1) hx hb dL_law_153 (by decide) ?_
  refine lv_iadd hx hb dL_law_154 ?_
  refine lv_top (x' := nI (i + 1)) (nI_add i 1) ?_
  refine va_sld hx hb hX hbl hbA hS (vp_in_nI (by omega) (by omega)) dL_law_155 ?_
  refine lv_top (x' := v1) (by rw [ev1, nI_clamp (by omega)]) ?_
  refine wr_Vi (As := [.int v1]) (rest := []) (ci := 0) (qc := (RX0, TX0, 7)) (wr := wM h2 b1 b2 b3 b4 b5 b6 cA (nI k) tm hA rA lT jA pT cF) (A0 := (fun q : Nat => s.heap.size ≤ q)) S (c_X0_report l dC dI h1 a1 a2 a3 a4 a5 cA (nI k) tm fN fM fJ fT fC v1 _) gL_law_X0_report rfl ⟨rfl, rfl⟩ hd_X0_report ⟨Nat.le_of_ble_eq_true rfl, Nat.le_of_ble_eq_true rfl⟩ hK hP hD hS hA9 [0, 1, 2, 3, 4, 5] [6, 7, 8, 9, 10, 11, 12] rfl rfl (by decide) (by decide) (by decide) rfl rfl rfl rfl hl.1 rfl (Nat.le_of_ble_eq_true rfl) dL_law_156 ⟨Nat.le_of_ble_eq_true rfl, Nat.le_of_ble_eq_true rfl⟩ (fun H locs hP hD hS => ?_)
  have hP : va_P (dC, dI) vwCl (wM h2 b1 b2 b3 b4 b5 b6 cA (nI k) tm hA rA lT jA pT cF ++ wX h1 a1 a2 a3 a4 a5 cA (nI k) tm fN (xReM tm fM v1) fJ fT fC) H := hP
  have hD : va_D (fun q : Nat => s.heap.size ≤ q) (wM h2 b1 b2 b3 b4 b5 b6 cA (nI k) tm hA rA lT jA pT cF ++ wX h1 a1 a2 a3 a4 a5 cA (nI k) tm fN (xReM tm fM v1) fJ fT fC) := hD
  refine lv_aload_n hx hb dL_law_159 rfl (lv_at hl 2 rfl) ?_
  refine lv_aload_n hx hb dL_law_160 rfl (lv_at hl 0 rfl) ?_
  refine lv_iload_n hx hb dL_law_161 rfl (lv_at hl 3 rfl) ?_
  refine lv_iconst (v := 1) hx hb dL_law_162 (by decide) ?_
  refine lv_iadd hx hb dL_law_163 ?_
  refine lv_top (x' := nI (i + 1)) (nI_add i 1) ?_
  refine va_sld hx hb hX hbl hbA hS (vp_in_nI (by omega) (by omega)) dL_law_164 ?_
  refine lv_top (x' := v1) (by rw [ev1, nI_clamp (by omega)]) ?_
  refine wr_Vi (As := [.int v1]) (rest := [.int (bI (xG v1))]) (ci := 1) (qc := (RX1, TX1, 8)) (wr := wX h1 a1 a2 a3 a4 a5 cA (nI k) tm fN (xReM tm fM v1) fJ fT fC) (A0 := (fun q : Nat => s.heap.size ≤ q)) S (c_X1_report l dC dI h2 b1 b2 b3 b4 b5 b6 cA (nI k) tm hA rA lT jA pT cF v1 _) gL_law_X1_report rfl ⟨rfl, rfl⟩ hd_X1_report ⟨Nat.le_of_ble_eq_true rfl, Nat.le_of_ble_eq_true rfl⟩ hK hP hD hS hA9 [0, 1, 2, 3, 4, 5, 6] [7, 8, 9, 10, 11, 12] rfl rfl (by decide) (by decide) (by decide) rfl rfl rfl rfl hl.1 rfl (Nat.le_of_ble_eq_true rfl) dL_law_165 ⟨Nat.le_of_ble_eq_true rfl, Nat.le_of_ble_eq_true rfl⟩ (fun H locs hP hD hS => ?_)
  have hP : va_P (dC, dI) vwCl (wX h1 a1 a2 a3 a4 a5 cA (nI k) tm fN (xReM tm fM v1) fJ fT fC ++ wM h2 b1 b2 b3 b4 b5 b6 cA (nI k) tm hA (mReA tm rA v1) (mReT lT v1) jA pT cF) H := hP
  have hD : va_D (fun q : Nat => s.heap.size ≤ q) (wX h1 a1 a2 a3 a4 a5 cA (nI k) tm fN (xReM tm fM v1) fJ fT fC ++ wM h2 b1 b2 b3 b4 b5 b6 cA (nI k) tm hA (mReA tm rA v1) (mReT lT v1) jA pT cF) := hD
  refine lv_icmp_eq (tgt := 418) hx hb dL_law_168 (by decide) (fun c9 => ?_) (fun c9 => ?_)
  · exact back tm fN (xReM tm fM v1) fJ fT fC hA (mReA tm rA v1) (mReT lT v1) jA pT cF (R_report R v1) _ _ ls hP hD hS hl
  · exact absurd (show bI (xG v1) = bI (xG v1) from rfl) c9
set_option maxHeartbeats 4000000 in
set_option maxRecDepth 100000 in
theorem law_leave {p : Program} {e : Env} {s : State} {m : MethodId} {below : List Frame} {meth : Method} {c : Code} {l : Launch} {b L : Nat} {xs : Nat → Int32} (hL : L ≤ 2049) (C0 : lw_At p s m meth c b L xs) {dC : Nat → ClassId} {dI : Nat → Nat → Nat} {h1 a1 a2 a3 a4 a5 h2 b1 b2 b3 b4 b5 b6 : Nat} {cA : ClassId} {k i : Nat} (hi : i + 4 ≤ L) (hK : va_K (dC, dI) vwCl [(cA, .int)] s) (back : ∀ (tm : Int32) (fN fM fJ fT fC hA rA lT jA pT cF : Nat → Int32), Rel k tm fN fM fJ fT fC hA rA lT jA pT cF → ∀ (H : Heap) (locs : List Loc) (ls : Array Slot), va_P (dC, dI) vwCl (wX h1 a1 a2 a3 a4 a5 cA (nI k) tm fN fM fJ fT fC ++ wM h2 b1 b2 b3 b4 b5 b6 cA (nI k) tm hA rA lT jA pT cF) H → va_D (fun q : Nat => s.heap.size ≤ q) (wX h1 a1 a2 a3 a4 a5 cA (nI k) tm fN fM fJ fT fC ++ wM h2 b1 b2 b3 b4 b5 b6 cA (nI k) tm hA rA lT jA pT cF) → va_S (fun q : Nat => s.heap.size ≤ q) s.heap H locs → lv_has ls 4 [(0, .ref b), (1, .ref h1), (2, .ref h2), (3, .int (nI i))] → W p l e room_1 s m #[Value.ref b] below meth c H locs 13 731 (lw_Z below #[Value.ref b] s) (F0 m 418 ls [])) (tm : Int32) (fN fM fJ fT fC hA rA lT jA pT cF : Nat → Int32) (R : Rel k tm fN fM fJ fT fC hA rA lT jA pT cF) (H : Heap) (locs : List Loc) (ls : Array Slot) (hP : va_P (dC, dI) vwCl (wX h1 a1 a2 a3 a4 a5 cA (nI k) tm fN fM fJ fT fC ++ wM h2 b1 b2 b3 b4 b5 b6 cA (nI k) tm hA rA lT jA pT cF) H) (hD : va_D (fun q : Nat => s.heap.size ≤ q) (wX h1 a1 a2 a3 a4 a5 cA (nI k) tm fN fM fJ fT fC ++ wM h2 b1 b2 b3 b4 b5 b6 cA (nI k) tm hA rA lT jA pT cF)) (hS : va_S (fun q : Nat => s.heap.size ≤ q) s.heap H locs) (hl : lv_has ls 4 [(0, .ref b), (1, .ref h1), (2, .ref h2), (3, .int (nI i))]) : W p l e room_1 s m #[Value.ref b] below meth c H locs 13 731 (lw_Z below #[Value.ref b] s) (F0 m 173 ls []) := by
  obtain ⟨hx, hb, hr, hml, hown, hts, hX, hbl, hlocks, hgv⟩ := id C0
  have hb : c.code = cL_law := hb
  have hown : s.vm.findClass RL = some m.cls := hown
  have hts : ∀ w ∈ wsL_law, w.before #[Value.ref b] s = true := fun w h => hts w (wsL_law_in w h)
  have S : CallFix p m c cL_law 4 s #[Value.ref b] wsL_law RL := ⟨hx, hb, hml, hown, hts⟩
  have hA9 : ∀ q : Nat, s.heap.size ≤ q → (fun q : Nat => s.heap.size ≤ q) q := fun _ h => h
  have hbA : ¬ (fun q : Nat => s.heap.size ≤ q) b := Nat.not_le.mpr hbl
  obtain ⟨v1, ev1⟩ : ∃ y : Int32, y = xs (i + 1) := ⟨_, rfl⟩
  refine lv_aload_n hx hb dL_law_173 rfl (lv_at hl 1 rfl) ?_
  refine lv_aload_n hx hb dL_law_174 rfl (lv_at hl 0 rfl) ?_
  refine lv_iload_n hx hb dL_law_175 rfl (lv_at hl 3 rfl) ?_
  refine lv_iconst (v := 1) hx hb dL_law_176 (by decide) ?_
  refine lv_iadd hx hb dL_law_177 ?_
  refine lv_top (x' := nI (i + 1)) (nI_add i 1) ?_
  refine va_sld hx hb hX hbl hbA hS (vp_in_nI (by omega) (by omega)) dL_law_178 ?_
  refine lv_top (x' := v1) (by rw [ev1, nI_clamp (by omega)]) ?_
  refine wr_Vi (As := [.int v1]) (rest := []) (ci := 0) (qc := (RX0, TX0, 7)) (wr := wM h2 b1 b2 b3 b4 b5 b6 cA (nI k) tm hA rA lT jA pT cF) (A0 := (fun q : Nat => s.heap.size ≤ q)) S (c_X0_leave l dC dI h1 a1 a2 a3 a4 a5 cA (nI k) tm fN fM fJ fT fC v1 _) gL_law_X0_leave rfl ⟨rfl, rfl⟩ hd_X0_leave ⟨Nat.le_of_ble_eq_true rfl, Nat.le_of_ble_eq_true rfl⟩ hK hP hD hS hA9 [0, 1, 2, 3, 4, 5] [6, 7, 8, 9, 10, 11, 12] rfl rfl (by decide) (by decide) (by decide) rfl rfl rfl rfl hl.1 rfl (Nat.le_of_ble_eq_true rfl) dL_law_179 ⟨Nat.le_of_ble_eq_true rfl, Nat.le_of_ble_eq_true rfl⟩ (fun H locs hP hD hS => ?_)
  have hP : va_P (dC, dI) vwCl (wM h2 b1 b2 b3 b4 b5 b6 cA (nI k) tm hA rA lT jA pT cF ++ wX h1 a1 a2 a3 a4 a5 cA (nI k) tm fN (xLeM ((nI k)) tm fN fM v1) fJ fT fC) H := hP
  have hD : va_D (fun q : Nat => s.heap.size ≤ q) (wM h2 b1 b2 b3 b4 b5 b6 cA (nI k) tm hA rA lT jA pT cF ++ wX h1 a1 a2 a3 a4 a5 cA (nI k) tm fN (xLeM ((nI k)) tm fN fM v1) fJ fT fC) := hD
  refine lv_aload_n hx hb dL_law_182 rfl (lv_at hl 2 rfl) ?_
  refine lv_aload_n hx hb dL_law_183 rfl (lv_at hl 0 rfl) ?_
  refine lv_iload_n hx hb dL_law_184 rfl (lv_at hl 3 rfl) ?_
  refine lv_iconst (v := 1) hx hb dL_law_185 (by decide) ?_
  refine lv_iadd hx hb dL_law_186 ?_
  refine lv_top (x' := nI (i + 1)) (nI_add i 1) ?_
  refine va_sld hx hb hX hbl hbA hS (vp_in_nI (by omega) (by omega)) dL_law_187 ?_
  refine lv_top (x' := v1) (by rw [ev1, nI_clamp (by omega)]) ?_
  refine wr_Vi (As := [.int v1]) (rest := [.int (bI (xLeB (nI k) tm fN fM v1))]) (ci := 1) (qc := (RX1, TX1, 8)) (wr := wX h1 a1 a2 a3 a4 a5 cA (nI k) tm fN (xLeM ((nI k)) tm fN fM v1) fJ fT fC) (A0 := (fun q : Nat => s.heap.size ≤ q)) S (c_X1_leave l dC dI h2 b1 b2 b3 b4 b5 b6 cA (nI k) tm hA rA lT jA pT cF v1 ((shl_ne (by have := R.1; omega))) _) gL_law_X1_leave rfl ⟨rfl, rfl⟩ hd_X1_leave ⟨Nat.le_of_ble_eq_true rfl, Nat.le_of_ble_eq_true rfl⟩ hK hP hD hS hA9 [0, 1, 2, 3, 4, 5, 6] [7, 8, 9, 10, 11, 12] rfl rfl (by decide) (by decide) (by decide) rfl rfl rfl rfl hl.1 rfl (Nat.le_of_ble_eq_true rfl) dL_law_188 ⟨Nat.le_of_ble_eq_true rfl, Nat.le_of_ble_eq_true rfl⟩ (fun H locs hP hD hS => ?_)
  have hP : va_P (dC, dI) vwCl (wX h1 a1 a2 a3 a4 a5 cA (nI k) tm fN (xLeM ((nI k)) tm fN fM v1) fJ fT fC ++ wM h2 b1 b2 b3 b4 b5 b6 cA (nI k) tm hA rA (mLeT ((nI k)) tm hA rA lT v1) jA pT cF) H := hP
  have hD : va_D (fun q : Nat => s.heap.size ≤ q) (wX h1 a1 a2 a3 a4 a5 cA (nI k) tm fN (xLeM ((nI k)) tm fN fM v1) fJ fT fC ++ wM h2 b1 b2 b3 b4 b5 b6 cA (nI k) tm hA rA (mLeT ((nI k)) tm hA rA lT v1) jA pT cF) := hD
  refine lv_icmp_eq (tgt := 418) hx hb dL_law_191 (by decide) (fun c9 => ?_) (fun c9 => ?_)
  · exact back tm fN (xLeM ((nI k)) tm fN fM v1) fJ fT fC hA rA (mLeT ((nI k)) tm hA rA lT v1) jA pT cF (R_leave R v1) _ _ ls hP hD hS hl
  · exact absurd (show bI (xLeB (nI k) tm fN fM v1) = bI (mLeB (nI k) tm hA rA lT v1) from by rw [R_leb R]) c9
set_option maxHeartbeats 4000000 in
set_option maxRecDepth 100000 in
theorem law_join {p : Program} {e : Env} {s : State} {m : MethodId} {below : List Frame} {meth : Method} {c : Code} {l : Launch} {b L : Nat} {xs : Nat → Int32} (hL : L ≤ 2049) (C0 : lw_At p s m meth c b L xs) {dC : Nat → ClassId} {dI : Nat → Nat → Nat} {h1 a1 a2 a3 a4 a5 h2 b1 b2 b3 b4 b5 b6 : Nat} {cA : ClassId} {k i : Nat} (hi : i + 4 ≤ L) (hK : va_K (dC, dI) vwCl [(cA, .int)] s) (back : ∀ (tm : Int32) (fN fM fJ fT fC hA rA lT jA pT cF : Nat → Int32), Rel k tm fN fM fJ fT fC hA rA lT jA pT cF → ∀ (H : Heap) (locs : List Loc) (ls : Array Slot), va_P (dC, dI) vwCl (wX h1 a1 a2 a3 a4 a5 cA (nI k) tm fN fM fJ fT fC ++ wM h2 b1 b2 b3 b4 b5 b6 cA (nI k) tm hA rA lT jA pT cF) H → va_D (fun q : Nat => s.heap.size ≤ q) (wX h1 a1 a2 a3 a4 a5 cA (nI k) tm fN fM fJ fT fC ++ wM h2 b1 b2 b3 b4 b5 b6 cA (nI k) tm hA rA lT jA pT cF) → va_S (fun q : Nat => s.heap.size ≤ q) s.heap H locs → lv_has ls 4 [(0, .ref b), (1, .ref h1), (2, .ref h2), (3, .int (nI i))] → W p l e room_1 s m #[Value.ref b] below meth c H locs 13 731 (lw_Z below #[Value.ref b] s) (F0 m 418 ls [])) (tm : Int32) (fN fM fJ fT fC hA rA lT jA pT cF : Nat → Int32) (R : Rel k tm fN fM fJ fT fC hA rA lT jA pT cF) (H : Heap) (locs : List Loc) (ls : Array Slot) (hP : va_P (dC, dI) vwCl (wX h1 a1 a2 a3 a4 a5 cA (nI k) tm fN fM fJ fT fC ++ wM h2 b1 b2 b3 b4 b5 b6 cA (nI k) tm hA rA lT jA pT cF) H) (hD : va_D (fun q : Nat => s.heap.size ≤ q) (wX h1 a1 a2 a3 a4 a5 cA (nI k) tm fN fM fJ fT fC ++ wM h2 b1 b2 b3 b4 b5 b6 cA (nI k) tm hA rA lT jA pT cF)) (hS : va_S (fun q : Nat => s.heap.size ≤ q) s.heap H locs) (hl : lv_has ls 4 [(0, .ref b), (1, .ref h1), (2, .ref h2), (3, .int (nI i))]) : W p l e room_1 s m #[Value.ref b] below meth c H locs 13 731 (lw_Z below #[Value.ref b] s) (F0 m 196 ls []) := by
  obtain ⟨hx, hb, hr, hml, hown, hts, hX, hbl, hlocks, hgv⟩ := id C0
  have hb : c.code = cL_law := hb
  have hown : s.vm.findClass RL = some m.cls := hown
  have hts : ∀ w ∈ wsL_law, w.before #[Value.ref b] s = true := fun w h => hts w (wsL_law_in w h)
  have S : CallFix p m c cL_law 4 s #[Value.ref b] wsL_law RL := ⟨hx, hb, hml, hown, hts⟩
  have hA9 : ∀ q : Nat, s.heap.size ≤ q → (fun q : Nat => s.heap.size ≤ q) q := fun _ h => h
  have hbA : ¬ (fun q : Nat => s.heap.size ≤ q) b := Nat.not_le.mpr hbl
  obtain ⟨v1, ev1⟩ : ∃ y : Int32, y = xs (i + 1) := ⟨_, rfl⟩
  obtain ⟨v2, ev2⟩ : ∃ y : Int32, y = xs (i + 2) := ⟨_, rfl⟩
  obtain ⟨v3, ev3⟩ : ∃ y : Int32, y = xs (i + 3) := ⟨_, rfl⟩
  refine lv_aload_n hx hb dL_law_196 rfl (lv_at hl 1 rfl) ?_
  refine lv_aload_n hx hb dL_law_197 rfl (lv_at hl 0 rfl) ?_
  refine lv_iload_n hx hb dL_law_198 rfl (lv_at hl 3 rfl) ?_
  refine lv_iconst (v := 1) hx hb dL_law_199 (by decide) ?_
  refine lv_iadd hx hb dL_law_200 ?_
  refine lv_top (x' := nI (i + 1)) (nI_add i 1) ?_
  refine va_sld hx hb hX hbl hbA hS (vp_in_nI (by omega) (by omega)) dL_law_201 ?_
  refine lv_top (x' := v1) (by rw [ev1, nI_clamp (by omega)]) ?_
  refine lv_aload_n hx hb dL_law_202 rfl (lv_at hl 0 rfl) ?_
  refine lv_iload_n hx hb dL_law_203 rfl (lv_at hl 3 rfl) ?_
  refine lv_iconst (v := 2) hx hb dL_law_204 (by decide) ?_
  refine lv_iadd hx hb dL_law_205 ?_
  refine lv_top (x' := nI (i + 2)) (nI_add i 2) ?_
  refine va_sld hx hb hX hbl hbA hS (vp_in_nI (by omega) (by omega)) dL_law_206 ?_
  refine lv_top (x' := v2) (by rw [ev2, nI_clamp (by omega)]) ?_
  refine lv_aload_n hx hb dL_law_207 rfl (lv_at hl 0 rfl) ?_
  refine lv_iload_n hx hb dL_law_208 rfl (lv_at hl 3 rfl) ?_
  refine lv_iconst (v := 3) hx hb dL_law_209 (by decide) ?_
  refine lv_iadd hx hb dL_law_210 ?_
  refine lv_top (x' := nI (i + 3)) (nI_add i 3) ?_
  refine va_sld hx hb hX hbl hbA hS (vp_in_nI (by omega) (by omega)) dL_law_211 ?_
  refine lv_top (x' := v3) (by rw [ev3, nI_clamp (by omega)]) ?_
  refine wr_Vi (As := [.int v1, .int v2, .int v3]) (rest := []) (ci := 0) (qc := (RX0, TX0, 7)) (wr := wM h2 b1 b2 b3 b4 b5 b6 cA (nI k) tm hA rA lT jA pT cF) (A0 := (fun q : Nat => s.heap.size ≤ q)) S (c_X0_join l dC dI h1 a1 a2 a3 a4 a5 cA (nI k) tm fN fM fJ fT fC v1 v2 v3 _) gL_law_X0_join rfl ⟨rfl, rfl⟩ hd_X0_join ⟨Nat.le_of_ble_eq_true rfl, Nat.le_of_ble_eq_true rfl⟩ hK hP hD hS hA9 [0, 1, 2, 3, 4, 5] [6, 7, 8, 9, 10, 11, 12] rfl rfl (by decide) (by decide) (by decide) rfl rfl rfl rfl hl.1 rfl (Nat.le_of_ble_eq_true rfl) dL_law_212 ⟨Nat.le_of_ble_eq_true rfl, Nat.le_of_ble_eq_true rfl⟩ (fun H locs hP hD hS => ?_)
  have hP : va_P (dC, dI) vwCl (wM h2 b1 b2 b3 b4 b5 b6 cA (nI k) tm hA rA lT jA pT cF ++ wX h1 a1 a2 a3 a4 a5 cA (nI k) tm fN fM (xJoJ tm fJ v1 v2) (xJoT fT v1 v2 v3) (xJoC tm fN fJ fT fC v1 v2 v3)) H := hP
  have hD : va_D (fun q : Nat => s.heap.size ≤ q) (wM h2 b1 b2 b3 b4 b5 b6 cA (nI k) tm hA rA lT jA pT cF ++ wX h1 a1 a2 a3 a4 a5 cA (nI k) tm fN fM (xJoJ tm fJ v1 v2) (xJoT fT v1 v2 v3) (xJoC tm fN fJ fT fC v1 v2 v3)) := hD
  refine lv_aload_n hx hb dL_law_215 rfl (lv_at hl 2 rfl) ?_
  refine lv_aload_n hx hb dL_law_216 rfl (lv_at hl 0 rfl) ?_
  refine lv_iload_n hx hb dL_law_217 rfl (lv_at hl 3 rfl) ?_
  refine lv_iconst (v := 1) hx hb dL_law_218 (by decide) ?_
  refine lv_iadd hx hb dL_law_219 ?_
  refine lv_top (x' := nI (i + 1)) (nI_add i 1) ?_
  refine va_sld hx hb hX hbl hbA hS (vp_in_nI (by omega) (by omega)) dL_law_220 ?_
  refine lv_top (x' := v1) (by rw [ev1, nI_clamp (by omega)]) ?_
  refine lv_aload_n hx hb dL_law_221 rfl (lv_at hl 0 rfl) ?_
  refine lv_iload_n hx hb dL_law_222 rfl (lv_at hl 3 rfl) ?_
  refine lv_iconst (v := 2) hx hb dL_law_223 (by decide) ?_
  refine lv_iadd hx hb dL_law_224 ?_
  refine lv_top (x' := nI (i + 2)) (nI_add i 2) ?_
  refine va_sld hx hb hX hbl hbA hS (vp_in_nI (by omega) (by omega)) dL_law_225 ?_
  refine lv_top (x' := v2) (by rw [ev2, nI_clamp (by omega)]) ?_
  refine lv_aload_n hx hb dL_law_226 rfl (lv_at hl 0 rfl) ?_
  refine lv_iload_n hx hb dL_law_227 rfl (lv_at hl 3 rfl) ?_
  refine lv_iconst (v := 3) hx hb dL_law_228 (by decide) ?_
  refine lv_iadd hx hb dL_law_229 ?_
  refine lv_top (x' := nI (i + 3)) (nI_add i 3) ?_
  refine va_sld hx hb hX hbl hbA hS (vp_in_nI (by omega) (by omega)) dL_law_230 ?_
  refine lv_top (x' := v3) (by rw [ev3, nI_clamp (by omega)]) ?_
  refine wr_Vi (As := [.int v1, .int v2, .int v3]) (rest := [.int (bI (xJoB v1 v2))]) (ci := 1) (qc := (RX1, TX1, 8)) (wr := wX h1 a1 a2 a3 a4 a5 cA (nI k) tm fN fM (xJoJ tm fJ v1 v2) (xJoT fT v1 v2 v3) (xJoC tm fN fJ fT fC v1 v2 v3)) (A0 := (fun q : Nat => s.heap.size ≤ q)) S (c_X1_join l dC dI h2 b1 b2 b3 b4 b5 b6 cA (nI k) tm hA rA lT jA pT cF v1 v2 v3 _) gL_law_X1_join rfl ⟨rfl, rfl⟩ hd_X1_join ⟨Nat.le_of_ble_eq_true rfl, Nat.le_of_ble_eq_true rfl⟩ hK hP hD hS hA9 [0, 1, 2, 3, 4, 5, 6] [7, 8, 9, 10, 11, 12] rfl rfl (by decide) (by decide) (by decide) rfl rfl rfl rfl hl.1 rfl (Nat.le_of_ble_eq_true rfl) dL_law_231 ⟨Nat.le_of_ble_eq_true rfl, Nat.le_of_ble_eq_true rfl⟩ (fun H locs hP hD hS => ?_)
  have hP : va_P (dC, dI) vwCl (wX h1 a1 a2 a3 a4 a5 cA (nI k) tm fN fM (xJoJ tm fJ v1 v2) (xJoT fT v1 v2 v3) (xJoC tm fN fJ fT fC v1 v2 v3) ++ wM h2 b1 b2 b3 b4 b5 b6 cA (nI k) tm hA rA lT (mJoA tm jA v1 v2) (mJoP pT v1 v2) (mJoC tm hA jA pT cF v1 v2 v3)) H := hP
  have hD : va_D (fun q : Nat => s.heap.size ≤ q) (wX h1 a1 a2 a3 a4 a5 cA (nI k) tm fN fM (xJoJ tm fJ v1 v2) (xJoT fT v1 v2 v3) (xJoC tm fN fJ fT fC v1 v2 v3) ++ wM h2 b1 b2 b3 b4 b5 b6 cA (nI k) tm hA rA lT (mJoA tm jA v1 v2) (mJoP pT v1 v2) (mJoC tm hA jA pT cF v1 v2 v3)) := hD
  refine lv_icmp_eq (tgt := 418) hx hb dL_law_234 (by decide) (fun c9 => ?_) (fun c9 => ?_)
  · exact back tm fN fM (xJoJ tm fJ v1 v2) (xJoT fT v1 v2 v3) (xJoC tm fN fJ fT fC v1 v2 v3) hA rA lT (mJoA tm jA v1 v2) (mJoP pT v1 v2) (mJoC tm hA jA pT cF v1 v2 v3) (R_join R v1 v2 v3) _ _ ls hP hD hS hl
  · exact absurd (show bI (xJoB v1 v2) = bI (mBr v1 v2) from by rw [br_eq]) c9
set_option maxHeartbeats 4000000 in
set_option maxRecDepth 100000 in
theorem law_prune {p : Program} {e : Env} {s : State} {m : MethodId} {below : List Frame} {meth : Method} {c : Code} {l : Launch} {b L : Nat} {xs : Nat → Int32} (hL : L ≤ 2049) (C0 : lw_At p s m meth c b L xs) {dC : Nat → ClassId} {dI : Nat → Nat → Nat} {h1 a1 a2 a3 a4 a5 h2 b1 b2 b3 b4 b5 b6 : Nat} {cA : ClassId} {k i : Nat} (hi : i + 4 ≤ L) (hK : va_K (dC, dI) vwCl [(cA, .int)] s) (back : ∀ (tm : Int32) (fN fM fJ fT fC hA rA lT jA pT cF : Nat → Int32), Rel k tm fN fM fJ fT fC hA rA lT jA pT cF → ∀ (H : Heap) (locs : List Loc) (ls : Array Slot), va_P (dC, dI) vwCl (wX h1 a1 a2 a3 a4 a5 cA (nI k) tm fN fM fJ fT fC ++ wM h2 b1 b2 b3 b4 b5 b6 cA (nI k) tm hA rA lT jA pT cF) H → va_D (fun q : Nat => s.heap.size ≤ q) (wX h1 a1 a2 a3 a4 a5 cA (nI k) tm fN fM fJ fT fC ++ wM h2 b1 b2 b3 b4 b5 b6 cA (nI k) tm hA rA lT jA pT cF) → va_S (fun q : Nat => s.heap.size ≤ q) s.heap H locs → lv_has ls 4 [(0, .ref b), (1, .ref h1), (2, .ref h2), (3, .int (nI i))] → W p l e room_1 s m #[Value.ref b] below meth c H locs 13 731 (lw_Z below #[Value.ref b] s) (F0 m 418 ls [])) (tm : Int32) (fN fM fJ fT fC hA rA lT jA pT cF : Nat → Int32) (R : Rel k tm fN fM fJ fT fC hA rA lT jA pT cF) (H : Heap) (locs : List Loc) (ls : Array Slot) (hP : va_P (dC, dI) vwCl (wX h1 a1 a2 a3 a4 a5 cA (nI k) tm fN fM fJ fT fC ++ wM h2 b1 b2 b3 b4 b5 b6 cA (nI k) tm hA rA lT jA pT cF) H) (hD : va_D (fun q : Nat => s.heap.size ≤ q) (wX h1 a1 a2 a3 a4 a5 cA (nI k) tm fN fM fJ fT fC ++ wM h2 b1 b2 b3 b4 b5 b6 cA (nI k) tm hA rA lT jA pT cF)) (hS : va_S (fun q : Nat => s.heap.size ≤ q) s.heap H locs) (hl : lv_has ls 4 [(0, .ref b), (1, .ref h1), (2, .ref h2), (3, .int (nI i))]) : W p l e room_1 s m #[Value.ref b] below meth c H locs 13 731 (lw_Z below #[Value.ref b] s) (F0 m 239 ls []) := by
  obtain ⟨hx, hb, hr, hml, hown, hts, hX, hbl, hlocks, hgv⟩ := id C0
  have hb : c.code = cL_law := hb
  have hown : s.vm.findClass RL = some m.cls := hown
  have hts : ∀ w ∈ wsL_law, w.before #[Value.ref b] s = true := fun w h => hts w (wsL_law_in w h)
  have S : CallFix p m c cL_law 4 s #[Value.ref b] wsL_law RL := ⟨hx, hb, hml, hown, hts⟩
  have hA9 : ∀ q : Nat, s.heap.size ≤ q → (fun q : Nat => s.heap.size ≤ q) q := fun _ h => h
  have hbA : ¬ (fun q : Nat => s.heap.size ≤ q) b := Nat.not_le.mpr hbl
  obtain ⟨v1, ev1⟩ : ∃ y : Int32, y = xs (i + 1) := ⟨_, rfl⟩
  obtain ⟨v2, ev2⟩ : ∃ y : Int32, y = xs (i + 2) := ⟨_, rfl⟩
  refine lv_aload_n hx hb dL_law_239 rfl (lv_at hl 1 rfl) ?_
  refine lv_aload_n hx hb dL_law_240 rfl (lv_at hl 0 rfl) ?_
  refine lv_iload_n hx hb dL_law_241 rfl (lv_at hl 3 rfl) ?_
  refine lv_iconst (v := 1) hx hb dL_law_242 (by decide) ?_
  refine lv_iadd hx hb dL_law_243 ?_
  refine lv_top (x' := nI (i + 1)) (nI_add i 1) ?_
  refine va_sld hx hb hX hbl hbA hS (vp_in_nI (by omega) (by omega)) dL_law_244 ?_
  refine lv_top (x' := v1) (by rw [ev1, nI_clamp (by omega)]) ?_
  refine lv_aload_n hx hb dL_law_245 rfl (lv_at hl 0 rfl) ?_
  refine lv_iload_n hx hb dL_law_246 rfl (lv_at hl 3 rfl) ?_
  refine lv_iconst (v := 2) hx hb dL_law_247 (by decide) ?_
  refine lv_iadd hx hb dL_law_248 ?_
  refine lv_top (x' := nI (i + 2)) (nI_add i 2) ?_
  refine va_sld hx hb hX hbl hbA hS (vp_in_nI (by omega) (by omega)) dL_law_249 ?_
  refine lv_top (x' := v2) (by rw [ev2, nI_clamp (by omega)]) ?_
  refine wr_Vi (As := [.int v1, .int v2]) (rest := []) (ci := 0) (qc := (RX0, TX0, 7)) (wr := wM h2 b1 b2 b3 b4 b5 b6 cA (nI k) tm hA rA lT jA pT cF) (A0 := (fun q : Nat => s.heap.size ≤ q)) S (c_X0_prune l dC dI h1 a1 a2 a3 a4 a5 cA (nI k) tm fN fM fJ fT fC v1 v2 _) gL_law_X0_prune rfl ⟨rfl, rfl⟩ hd_X0_prune ⟨Nat.le_of_ble_eq_true rfl, Nat.le_of_ble_eq_true rfl⟩ hK hP hD hS hA9 [0, 1, 2, 3, 4, 5] [6, 7, 8, 9, 10, 11, 12] rfl rfl (by decide) (by decide) (by decide) rfl rfl rfl rfl hl.1 rfl (Nat.le_of_ble_eq_true rfl) dL_law_250 ⟨Nat.le_of_ble_eq_true rfl, Nat.le_of_ble_eq_true rfl⟩ (fun H locs hP hD hS => ?_)
  have hP : va_P (dC, dI) vwCl (wM h2 b1 b2 b3 b4 b5 b6 cA (nI k) tm hA rA lT jA pT cF ++ wX h1 a1 a2 a3 a4 a5 cA (nI k) tm fN fM (xPrJ tm fN fJ v1 v2) fT fC) H := hP
  have hD : va_D (fun q : Nat => s.heap.size ≤ q) (wM h2 b1 b2 b3 b4 b5 b6 cA (nI k) tm hA rA lT jA pT cF ++ wX h1 a1 a2 a3 a4 a5 cA (nI k) tm fN fM (xPrJ tm fN fJ v1 v2) fT fC) := hD
  refine lv_aload_n hx hb dL_law_253 rfl (lv_at hl 2 rfl) ?_
  refine lv_aload_n hx hb dL_law_254 rfl (lv_at hl 0 rfl) ?_
  refine lv_iload_n hx hb dL_law_255 rfl (lv_at hl 3 rfl) ?_
  refine lv_iconst (v := 1) hx hb dL_law_256 (by decide) ?_
  refine lv_iadd hx hb dL_law_257 ?_
  refine lv_top (x' := nI (i + 1)) (nI_add i 1) ?_
  refine va_sld hx hb hX hbl hbA hS (vp_in_nI (by omega) (by omega)) dL_law_258 ?_
  refine lv_top (x' := v1) (by rw [ev1, nI_clamp (by omega)]) ?_
  refine lv_aload_n hx hb dL_law_259 rfl (lv_at hl 0 rfl) ?_
  refine lv_iload_n hx hb dL_law_260 rfl (lv_at hl 3 rfl) ?_
  refine lv_iconst (v := 2) hx hb dL_law_261 (by decide) ?_
  refine lv_iadd hx hb dL_law_262 ?_
  refine lv_top (x' := nI (i + 2)) (nI_add i 2) ?_
  refine va_sld hx hb hX hbl hbA hS (vp_in_nI (by omega) (by omega)) dL_law_263 ?_
  refine lv_top (x' := v2) (by rw [ev2, nI_clamp (by omega)]) ?_
  refine wr_Vi (As := [.int v1, .int v2]) (rest := [.int (bI (xPrB tm fJ v1 v2))]) (ci := 1) (qc := (RX1, TX1, 8)) (wr := wX h1 a1 a2 a3 a4 a5 cA (nI k) tm fN fM (xPrJ tm fN fJ v1 v2) fT fC) (A0 := (fun q : Nat => s.heap.size ≤ q)) S (c_X1_prune l dC dI h2 b1 b2 b3 b4 b5 b6 cA (nI k) tm hA rA lT jA pT cF v1 v2 _) gL_law_X1_prune rfl ⟨rfl, rfl⟩ hd_X1_prune ⟨Nat.le_of_ble_eq_true rfl, Nat.le_of_ble_eq_true rfl⟩ hK hP hD hS hA9 [0, 1, 2, 3, 4, 5, 6] [7, 8, 9, 10, 11, 12] rfl rfl (by decide) (by decide) (by decide) rfl rfl rfl rfl hl.1 rfl (Nat.le_of_ble_eq_true rfl) dL_law_264 ⟨Nat.le_of_ble_eq_true rfl, Nat.le_of_ble_eq_true rfl⟩ (fun H locs hP hD hS => ?_)
  have hP : va_P (dC, dI) vwCl (wX h1 a1 a2 a3 a4 a5 cA (nI k) tm fN fM (xPrJ tm fN fJ v1 v2) fT fC ++ wM h2 b1 b2 b3 b4 b5 b6 cA (nI k) tm hA rA lT jA (mPrP tm hA jA pT v1 v2) cF) H := hP
  have hD : va_D (fun q : Nat => s.heap.size ≤ q) (wX h1 a1 a2 a3 a4 a5 cA (nI k) tm fN fM (xPrJ tm fN fJ v1 v2) fT fC ++ wM h2 b1 b2 b3 b4 b5 b6 cA (nI k) tm hA rA lT jA (mPrP tm hA jA pT v1 v2) cF) := hD
  refine lv_icmp_eq (tgt := 418) hx hb dL_law_267 (by decide) (fun c9 => ?_) (fun c9 => ?_)
  · exact back tm fN fM (xPrJ tm fN fJ v1 v2) fT fC hA rA lT jA (mPrP tm hA jA pT v1 v2) cF (R_prune R v1 v2) _ _ ls hP hD hS hl
  · exact absurd (show bI (xPrB tm fJ v1 v2) = bI (mPrB tm jA pT v1 v2) from by rw [R_prb R]) c9
set_option maxHeartbeats 4000000 in
set_option maxRecDepth 100000 in
theorem law_forget {p : Program} {e : Env} {s : State} {m : MethodId} {below : List Frame} {meth : Method} {c : Code} {l : Launch} {b L : Nat} {xs : Nat → Int32} (hL : L ≤ 2049) (C0 : lw_At p s m meth c b L xs) {dC : Nat → ClassId} {dI : Nat → Nat → Nat} {h1 a1 a2 a3 a4 a5 h2 b1 b2 b3 b4 b5 b6 : Nat} {cA : ClassId} {k i : Nat} (hi : i + 4 ≤ L) (hK : va_K (dC, dI) vwCl [(cA, .int)] s) (back : ∀ (tm : Int32) (fN fM fJ fT fC hA rA lT jA pT cF : Nat → Int32), Rel k tm fN fM fJ fT fC hA rA lT jA pT cF → ∀ (H : Heap) (locs : List Loc) (ls : Array Slot), va_P (dC, dI) vwCl (wX h1 a1 a2 a3 a4 a5 cA (nI k) tm fN fM fJ fT fC ++ wM h2 b1 b2 b3 b4 b5 b6 cA (nI k) tm hA rA lT jA pT cF) H → va_D (fun q : Nat => s.heap.size ≤ q) (wX h1 a1 a2 a3 a4 a5 cA (nI k) tm fN fM fJ fT fC ++ wM h2 b1 b2 b3 b4 b5 b6 cA (nI k) tm hA rA lT jA pT cF) → va_S (fun q : Nat => s.heap.size ≤ q) s.heap H locs → lv_has ls 4 [(0, .ref b), (1, .ref h1), (2, .ref h2), (3, .int (nI i))] → W p l e room_1 s m #[Value.ref b] below meth c H locs 13 731 (lw_Z below #[Value.ref b] s) (F0 m 418 ls [])) (tm : Int32) (fN fM fJ fT fC hA rA lT jA pT cF : Nat → Int32) (R : Rel k tm fN fM fJ fT fC hA rA lT jA pT cF) (H : Heap) (locs : List Loc) (ls : Array Slot) (hP : va_P (dC, dI) vwCl (wX h1 a1 a2 a3 a4 a5 cA (nI k) tm fN fM fJ fT fC ++ wM h2 b1 b2 b3 b4 b5 b6 cA (nI k) tm hA rA lT jA pT cF) H) (hD : va_D (fun q : Nat => s.heap.size ≤ q) (wX h1 a1 a2 a3 a4 a5 cA (nI k) tm fN fM fJ fT fC ++ wM h2 b1 b2 b3 b4 b5 b6 cA (nI k) tm hA rA lT jA pT cF)) (hS : va_S (fun q : Nat => s.heap.size ≤ q) s.heap H locs) (hl : lv_has ls 4 [(0, .ref b), (1, .ref h1), (2, .ref h2), (3, .int (nI i))]) : W p l e room_1 s m #[Value.ref b] below meth c H locs 13 731 (lw_Z below #[Value.ref b] s) (F0 m 272 ls []) := by
  obtain ⟨hx, hb, hr, hml, hown, hts, hX, hbl, hlocks, hgv⟩ := id C0
  have hb : c.code = cL_law := hb
  have hown : s.vm.findClass RL = some m.cls := hown
  have hts : ∀ w ∈ wsL_law, w.before #[Value.ref b] s = true := fun w h => hts w (wsL_law_in w h)
  have S : CallFix p m c cL_law 4 s #[Value.ref b] wsL_law RL := ⟨hx, hb, hml, hown, hts⟩
  have hA9 : ∀ q : Nat, s.heap.size ≤ q → (fun q : Nat => s.heap.size ≤ q) q := fun _ h => h
  have hbA : ¬ (fun q : Nat => s.heap.size ≤ q) b := Nat.not_le.mpr hbl
  refine lv_aload_n hx hb dL_law_272 rfl (lv_at hl 1 rfl) ?_
  refine wr_Vv (As := []) (rest := []) (ci := 0) (qc := (RX0, TX0, 7)) (wr := wM h2 b1 b2 b3 b4 b5 b6 cA (nI k) tm hA rA lT jA pT cF) (A0 := (fun q : Nat => s.heap.size ≤ q)) S (c_X0_forget l dC dI h1 a1 a2 a3 a4 a5 cA (nI k) tm fN fM fJ fT fC _) gL_law_X0_forget rfl ⟨rfl, rfl⟩ hd_X0_forget ⟨Nat.le_of_ble_eq_true rfl, Nat.le_of_ble_eq_true rfl⟩ hK hP hD hS hA9 [0, 1, 2, 3, 4, 5] [6, 7, 8, 9, 10, 11, 12] rfl rfl (by decide) (by decide) (by decide) rfl rfl rfl rfl hl.1 rfl (Nat.le_of_ble_eq_true rfl) dL_law_273 ⟨Nat.le_of_ble_eq_true rfl, Nat.le_of_ble_eq_true rfl⟩ (fun H locs hP hD hS => ?_)
  have hP : va_P (dC, dI) vwCl (wM h2 b1 b2 b3 b4 b5 b6 cA (nI k) tm hA rA lT jA pT cF ++ wX h1 a1 a2 a3 a4 a5 cA (nI k) tm (fillI fN (0 : Int32) 10) (fillI fM (0 : Int32) 8) (fillI fJ (0 : Int32) 136) (fillI fT (0 : Int32) 8) (fillI fC (0 : Int32) 128)) H := hP
  have hD : va_D (fun q : Nat => s.heap.size ≤ q) (wM h2 b1 b2 b3 b4 b5 b6 cA (nI k) tm hA rA lT jA pT cF ++ wX h1 a1 a2 a3 a4 a5 cA (nI k) tm (fillI fN (0 : Int32) 10) (fillI fM (0 : Int32) 8) (fillI fJ (0 : Int32) 136) (fillI fT (0 : Int32) 8) (fillI fC (0 : Int32) 128)) := hD
  refine lv_aload_n hx hb dL_law_276 rfl (lv_at hl 2 rfl) ?_
  refine wr_Vv (As := []) (rest := []) (ci := 1) (qc := (RX1, TX1, 8)) (wr := wX h1 a1 a2 a3 a4 a5 cA (nI k) tm (fillI fN (0 : Int32) 10) (fillI fM (0 : Int32) 8) (fillI fJ (0 : Int32) 136) (fillI fT (0 : Int32) 8) (fillI fC (0 : Int32) 128)) (A0 := (fun q : Nat => s.heap.size ≤ q)) S (c_X1_forget l dC dI h2 b1 b2 b3 b4 b5 b6 cA (nI k) tm hA rA lT jA pT cF _) gL_law_X1_forget rfl ⟨rfl, rfl⟩ hd_X1_forget ⟨Nat.le_of_ble_eq_true rfl, Nat.le_of_ble_eq_true rfl⟩ hK hP hD hS hA9 [0, 1, 2, 3, 4, 5, 6] [7, 8, 9, 10, 11, 12] rfl rfl (by decide) (by decide) (by decide) rfl rfl rfl rfl hl.1 rfl (Nat.le_of_ble_eq_true rfl) dL_law_277 ⟨Nat.le_of_ble_eq_true rfl, Nat.le_of_ble_eq_true rfl⟩ (fun H locs hP hD hS => ?_)
  have hP : va_P (dC, dI) vwCl (wX h1 a1 a2 a3 a4 a5 cA (nI k) tm (fillI fN (0 : Int32) 10) (fillI fM (0 : Int32) 8) (fillI fJ (0 : Int32) 136) (fillI fT (0 : Int32) 8) (fillI fC (0 : Int32) 128) ++ wM h2 b1 b2 b3 b4 b5 b6 cA (nI k) tm (fillI hA (-1 : Int32) 10) (fillI rA (-1 : Int32) 8) lT (fillI jA (-1 : Int32) 136) pT (fillI cF (-1 : Int32) 128)) H := hP
  have hD : va_D (fun q : Nat => s.heap.size ≤ q) (wX h1 a1 a2 a3 a4 a5 cA (nI k) tm (fillI fN (0 : Int32) 10) (fillI fM (0 : Int32) 8) (fillI fJ (0 : Int32) 136) (fillI fT (0 : Int32) 8) (fillI fC (0 : Int32) 128) ++ wM h2 b1 b2 b3 b4 b5 b6 cA (nI k) tm (fillI hA (-1 : Int32) 10) (fillI rA (-1 : Int32) 8) lT (fillI jA (-1 : Int32) 136) pT (fillI cF (-1 : Int32) 128)) := hD
  refine lv_goto (tgt := 418) hx hb dL_law_280 (by decide) ?_
  exact back tm (fillI fN (0 : Int32) 10) (fillI fM (0 : Int32) 8) (fillI fJ (0 : Int32) 136) (fillI fT (0 : Int32) 8) (fillI fC (0 : Int32) 128) (fillI hA (-1 : Int32) 10) (fillI rA (-1 : Int32) 8) lT (fillI jA (-1 : Int32) 136) pT (fillI cF (-1 : Int32) 128) (R_forget R) _ _ ls hP hD hS hl
set_option maxHeartbeats 4000000 in
set_option maxRecDepth 100000 in
theorem law_joined {p : Program} {e : Env} {s : State} {m : MethodId} {below : List Frame} {meth : Method} {c : Code} {l : Launch} {b L : Nat} {xs : Nat → Int32} (hL : L ≤ 2049) (C0 : lw_At p s m meth c b L xs) {dC : Nat → ClassId} {dI : Nat → Nat → Nat} {h1 a1 a2 a3 a4 a5 h2 b1 b2 b3 b4 b5 b6 : Nat} {cA : ClassId} {k i : Nat} (hi : i + 4 ≤ L) (hK : va_K (dC, dI) vwCl [(cA, .int)] s) (back : ∀ (tm : Int32) (fN fM fJ fT fC hA rA lT jA pT cF : Nat → Int32), Rel k tm fN fM fJ fT fC hA rA lT jA pT cF → ∀ (H : Heap) (locs : List Loc) (ls : Array Slot), va_P (dC, dI) vwCl (wX h1 a1 a2 a3 a4 a5 cA (nI k) tm fN fM fJ fT fC ++ wM h2 b1 b2 b3 b4 b5 b6 cA (nI k) tm hA rA lT jA pT cF) H → va_D (fun q : Nat => s.heap.size ≤ q) (wX h1 a1 a2 a3 a4 a5 cA (nI k) tm fN fM fJ fT fC ++ wM h2 b1 b2 b3 b4 b5 b6 cA (nI k) tm hA rA lT jA pT cF) → va_S (fun q : Nat => s.heap.size ≤ q) s.heap H locs → lv_has ls 4 [(0, .ref b), (1, .ref h1), (2, .ref h2), (3, .int (nI i))] → W p l e room_1 s m #[Value.ref b] below meth c H locs 13 731 (lw_Z below #[Value.ref b] s) (F0 m 418 ls [])) (tm : Int32) (fN fM fJ fT fC hA rA lT jA pT cF : Nat → Int32) (R : Rel k tm fN fM fJ fT fC hA rA lT jA pT cF) (H : Heap) (locs : List Loc) (ls : Array Slot) (hP : va_P (dC, dI) vwCl (wX h1 a1 a2 a3 a4 a5 cA (nI k) tm fN fM fJ fT fC ++ wM h2 b1 b2 b3 b4 b5 b6 cA (nI k) tm hA rA lT jA pT cF) H) (hD : va_D (fun q : Nat => s.heap.size ≤ q) (wX h1 a1 a2 a3 a4 a5 cA (nI k) tm fN fM fJ fT fC ++ wM h2 b1 b2 b3 b4 b5 b6 cA (nI k) tm hA rA lT jA pT cF)) (hS : va_S (fun q : Nat => s.heap.size ≤ q) s.heap H locs) (hl : lv_has ls 4 [(0, .ref b), (1, .ref h1), (2, .ref h2), (3, .int (nI i))]) : W p l e room_1 s m #[Value.ref b] below meth c H locs 13 731 (lw_Z below #[Value.ref b] s) (F0 m 283 ls []) := by
  obtain ⟨hx, hb, hr, hml, hown, hts, hX, hbl, hlocks, hgv⟩ := id C0
  have hb : c.code = cL_law := hb
  have hown : s.vm.findClass RL = some m.cls := hown
  have hts : ∀ w ∈ wsL_law, w.before #[Value.ref b] s = true := fun w h => hts w (wsL_law_in w h)
  have S : CallFix p m c cL_law 4 s #[Value.ref b] wsL_law RL := ⟨hx, hb, hml, hown, hts⟩
  have hA9 : ∀ q : Nat, s.heap.size ≤ q → (fun q : Nat => s.heap.size ≤ q) q := fun _ h => h
  have hbA : ¬ (fun q : Nat => s.heap.size ≤ q) b := Nat.not_le.mpr hbl
  obtain ⟨v1, ev1⟩ : ∃ y : Int32, y = xs (i + 1) := ⟨_, rfl⟩
  obtain ⟨v2, ev2⟩ : ∃ y : Int32, y = xs (i + 2) := ⟨_, rfl⟩
  refine lv_aload_n hx hb dL_law_283 rfl (lv_at hl 1 rfl) ?_
  refine lv_aload_n hx hb dL_law_284 rfl (lv_at hl 0 rfl) ?_
  refine lv_iload_n hx hb dL_law_285 rfl (lv_at hl 3 rfl) ?_
  refine lv_iconst (v := 1) hx hb dL_law_286 (by decide) ?_
  refine lv_iadd hx hb dL_law_287 ?_
  refine lv_top (x' := nI (i + 1)) (nI_add i 1) ?_
  refine va_sld hx hb hX hbl hbA hS (vp_in_nI (by omega) (by omega)) dL_law_288 ?_
  refine lv_top (x' := v1) (by rw [ev1, nI_clamp (by omega)]) ?_
  refine lv_aload_n hx hb dL_law_289 rfl (lv_at hl 0 rfl) ?_
  refine lv_iload_n hx hb dL_law_290 rfl (lv_at hl 3 rfl) ?_
  refine lv_iconst (v := 2) hx hb dL_law_291 (by decide) ?_
  refine lv_iadd hx hb dL_law_292 ?_
  refine lv_top (x' := nI (i + 2)) (nI_add i 2) ?_
  refine va_sld hx hb hX hbl hbA hS (vp_in_nI (by omega) (by omega)) dL_law_293 ?_
  refine lv_top (x' := v2) (by rw [ev2, nI_clamp (by omega)]) ?_
  have hPX : va_P (dC, dI) vwCl (wX h1 a1 a2 a3 a4 a5 cA (nI k) tm fN fM fJ fT fC) H := hP.sub [0, 1, 2, 3, 4, 5] rfl
  have hPM : va_P (dC, dI) vwCl (wM h2 b1 b2 b3 b4 b5 b6 cA (nI k) tm hA rA lT jA pT cF) H := hP.sub [6, 7, 8, 9, 10, 11, 12] rfl
  refine rd_V (As := [.int v1, .int v2]) (rest := []) (ci := 0) (qc := (RX0, TX0, 7)) S (c_X0_joined l dC dI h1 a1 a2 a3 a4 a5 cA (nI k) tm fN fM fJ fT fC v1 v2) gL_law_X0_joined rfl ⟨rfl, rfl⟩ hd_X0_joined ⟨Nat.le_of_ble_eq_true rfl, Nat.le_of_ble_eq_true rfl⟩ hK hPX rfl rfl rfl hl.1 rfl (Nat.le_of_ble_eq_true rfl) dL_law_294 ⟨Nat.le_of_ble_eq_true rfl, Nat.le_of_ble_eq_true rfl⟩ ?_
  refine lv_aload_n hx hb dL_law_297 rfl (lv_at hl 2 rfl) ?_
  refine lv_aload_n hx hb dL_law_298 rfl (lv_at hl 0 rfl) ?_
  refine lv_iload_n hx hb dL_law_299 rfl (lv_at hl 3 rfl) ?_
  refine lv_iconst (v := 1) hx hb dL_law_300 (by decide) ?_
  refine lv_iadd hx hb dL_law_301 ?_
  refine lv_top (x' := nI (i + 1)) (nI_add i 1) ?_
  refine va_sld hx hb hX hbl hbA hS (vp_in_nI (by omega) (by omega)) dL_law_302 ?_
  refine lv_top (x' := v1) (by rw [ev1, nI_clamp (by omega)]) ?_
  refine lv_aload_n hx hb dL_law_303 rfl (lv_at hl 0 rfl) ?_
  refine lv_iload_n hx hb dL_law_304 rfl (lv_at hl 3 rfl) ?_
  refine lv_iconst (v := 2) hx hb dL_law_305 (by decide) ?_
  refine lv_iadd hx hb dL_law_306 ?_
  refine lv_top (x' := nI (i + 2)) (nI_add i 2) ?_
  refine va_sld hx hb hX hbl hbA hS (vp_in_nI (by omega) (by omega)) dL_law_307 ?_
  refine lv_top (x' := v2) (by rw [ev2, nI_clamp (by omega)]) ?_
  refine rd_V (As := [.int v1, .int v2]) (rest := [.int (xJd tm fJ v1 v2)]) (ci := 1) (qc := (RX1, TX1, 8)) S (c_X1_joined l dC dI h2 b1 b2 b3 b4 b5 b6 cA (nI k) tm hA rA lT jA pT cF v1 v2) gL_law_X1_joined rfl ⟨rfl, rfl⟩ hd_X1_joined ⟨Nat.le_of_ble_eq_true rfl, Nat.le_of_ble_eq_true rfl⟩ hK hPM rfl rfl rfl hl.1 rfl (Nat.le_of_ble_eq_true rfl) dL_law_308 ⟨Nat.le_of_ble_eq_true rfl, Nat.le_of_ble_eq_true rfl⟩ ?_
  refine lv_icmp_eq (tgt := 418) hx hb dL_law_311 (by decide) (fun c9 => ?_) (fun c9 => ?_)
  · exact back tm fN fM fJ fT fC hA rA lT jA pT cF (R) _ _ ls hP hD hS hl
  · exact absurd (show xJd tm fJ v1 v2 = mJd tm jA pT v1 v2 from R_jd R v1 v2) c9
set_option maxHeartbeats 4000000 in
set_option maxRecDepth 100000 in
theorem law_cut {p : Program} {e : Env} {s : State} {m : MethodId} {below : List Frame} {meth : Method} {c : Code} {l : Launch} {b L : Nat} {xs : Nat → Int32} (hL : L ≤ 2049) (C0 : lw_At p s m meth c b L xs) {dC : Nat → ClassId} {dI : Nat → Nat → Nat} {h1 a1 a2 a3 a4 a5 h2 b1 b2 b3 b4 b5 b6 : Nat} {cA : ClassId} {k i : Nat} (hi : i + 4 ≤ L) (hK : va_K (dC, dI) vwCl [(cA, .int)] s) (back : ∀ (tm : Int32) (fN fM fJ fT fC hA rA lT jA pT cF : Nat → Int32), Rel k tm fN fM fJ fT fC hA rA lT jA pT cF → ∀ (H : Heap) (locs : List Loc) (ls : Array Slot), va_P (dC, dI) vwCl (wX h1 a1 a2 a3 a4 a5 cA (nI k) tm fN fM fJ fT fC ++ wM h2 b1 b2 b3 b4 b5 b6 cA (nI k) tm hA rA lT jA pT cF) H → va_D (fun q : Nat => s.heap.size ≤ q) (wX h1 a1 a2 a3 a4 a5 cA (nI k) tm fN fM fJ fT fC ++ wM h2 b1 b2 b3 b4 b5 b6 cA (nI k) tm hA rA lT jA pT cF) → va_S (fun q : Nat => s.heap.size ≤ q) s.heap H locs → lv_has ls 4 [(0, .ref b), (1, .ref h1), (2, .ref h2), (3, .int (nI i))] → W p l e room_1 s m #[Value.ref b] below meth c H locs 13 731 (lw_Z below #[Value.ref b] s) (F0 m 418 ls [])) (tm : Int32) (fN fM fJ fT fC hA rA lT jA pT cF : Nat → Int32) (R : Rel k tm fN fM fJ fT fC hA rA lT jA pT cF) (H : Heap) (locs : List Loc) (ls : Array Slot) (hP : va_P (dC, dI) vwCl (wX h1 a1 a2 a3 a4 a5 cA (nI k) tm fN fM fJ fT fC ++ wM h2 b1 b2 b3 b4 b5 b6 cA (nI k) tm hA rA lT jA pT cF) H) (hD : va_D (fun q : Nat => s.heap.size ≤ q) (wX h1 a1 a2 a3 a4 a5 cA (nI k) tm fN fM fJ fT fC ++ wM h2 b1 b2 b3 b4 b5 b6 cA (nI k) tm hA rA lT jA pT cF)) (hS : va_S (fun q : Nat => s.heap.size ≤ q) s.heap H locs) (hl : lv_has ls 4 [(0, .ref b), (1, .ref h1), (2, .ref h2), (3, .int (nI i))]) : W p l e room_1 s m #[Value.ref b] below meth c H locs 13 731 (lw_Z below #[Value.ref b] s) (F0 m 316 ls []) := by
  obtain ⟨hx, hb, hr, hml, hown, hts, hX, hbl, hlocks, hgv⟩ := id C0
  have hb : c.code = cL_law := hb
  have hown : s.vm.findClass RL = some m.cls := hown
  have hts : ∀ w ∈ wsL_law, w.before #[Value.ref b] s = true := fun w h => hts w (wsL_law_in w h)
  have S : CallFix p m c cL_law 4 s #[Value.ref b] wsL_law RL := ⟨hx, hb, hml, hown, hts⟩
  have hA9 : ∀ q : Nat, s.heap.size ≤ q → (fun q : Nat => s.heap.size ≤ q) q := fun _ h => h
  have hbA : ¬ (fun q : Nat => s.heap.size ≤ q) b := Nat.not_le.mpr hbl
  obtain ⟨v1, ev1⟩ : ∃ y : Int32, y = xs (i + 1) := ⟨_, rfl⟩
  obtain ⟨v2, ev2⟩ : ∃ y : Int32, y = xs (i + 2) := ⟨_, rfl⟩
  refine lv_aload_n hx hb dL_law_316 rfl (lv_at hl 1 rfl) ?_
  refine lv_aload_n hx hb dL_law_317 rfl (lv_at hl 0 rfl) ?_
  refine lv_iload_n hx hb dL_law_318 rfl (lv_at hl 3 rfl) ?_
  refine lv_iconst (v := 1) hx hb dL_law_319 (by decide) ?_
  refine lv_iadd hx hb dL_law_320 ?_
  refine lv_top (x' := nI (i + 1)) (nI_add i 1) ?_
  refine va_sld hx hb hX hbl hbA hS (vp_in_nI (by omega) (by omega)) dL_law_321 ?_
  refine lv_top (x' := v1) (by rw [ev1, nI_clamp (by omega)]) ?_
  refine lv_aload_n hx hb dL_law_322 rfl (lv_at hl 0 rfl) ?_
  refine lv_iload_n hx hb dL_law_323 rfl (lv_at hl 3 rfl) ?_
  refine lv_iconst (v := 2) hx hb dL_law_324 (by decide) ?_
  refine lv_iadd hx hb dL_law_325 ?_
  refine lv_top (x' := nI (i + 2)) (nI_add i 2) ?_
  refine va_sld hx hb hX hbl hbA hS (vp_in_nI (by omega) (by omega)) dL_law_326 ?_
  refine lv_top (x' := v2) (by rw [ev2, nI_clamp (by omega)]) ?_
  have hPX : va_P (dC, dI) vwCl (wX h1 a1 a2 a3 a4 a5 cA (nI k) tm fN fM fJ fT fC) H := hP.sub [0, 1, 2, 3, 4, 5] rfl
  have hPM : va_P (dC, dI) vwCl (wM h2 b1 b2 b3 b4 b5 b6 cA (nI k) tm hA rA lT jA pT cF) H := hP.sub [6, 7, 8, 9, 10, 11, 12] rfl
  refine rd_V (As := [.int v1, .int v2]) (rest := []) (ci := 0) (qc := (RX0, TX0, 7)) S (c_X0_cut l dC dI h1 a1 a2 a3 a4 a5 cA (nI k) tm fN fM fJ fT fC v1 v2) gL_law_X0_cut rfl ⟨rfl, rfl⟩ hd_X0_cut ⟨Nat.le_of_ble_eq_true rfl, Nat.le_of_ble_eq_true rfl⟩ hK hPX rfl rfl rfl hl.1 rfl (Nat.le_of_ble_eq_true rfl) dL_law_327 ⟨Nat.le_of_ble_eq_true rfl, Nat.le_of_ble_eq_true rfl⟩ ?_
  refine lv_aload_n hx hb dL_law_330 rfl (lv_at hl 2 rfl) ?_
  refine lv_aload_n hx hb dL_law_331 rfl (lv_at hl 0 rfl) ?_
  refine lv_iload_n hx hb dL_law_332 rfl (lv_at hl 3 rfl) ?_
  refine lv_iconst (v := 1) hx hb dL_law_333 (by decide) ?_
  refine lv_iadd hx hb dL_law_334 ?_
  refine lv_top (x' := nI (i + 1)) (nI_add i 1) ?_
  refine va_sld hx hb hX hbl hbA hS (vp_in_nI (by omega) (by omega)) dL_law_335 ?_
  refine lv_top (x' := v1) (by rw [ev1, nI_clamp (by omega)]) ?_
  refine lv_aload_n hx hb dL_law_336 rfl (lv_at hl 0 rfl) ?_
  refine lv_iload_n hx hb dL_law_337 rfl (lv_at hl 3 rfl) ?_
  refine lv_iconst (v := 2) hx hb dL_law_338 (by decide) ?_
  refine lv_iadd hx hb dL_law_339 ?_
  refine lv_top (x' := nI (i + 2)) (nI_add i 2) ?_
  refine va_sld hx hb hX hbl hbA hS (vp_in_nI (by omega) (by omega)) dL_law_340 ?_
  refine lv_top (x' := v2) (by rw [ev2, nI_clamp (by omega)]) ?_
  refine rd_V (As := [.int v1, .int v2]) (rest := [.int (xCu tm fJ fT fC v1 v2)]) (ci := 1) (qc := (RX1, TX1, 8)) S (c_X1_cut l dC dI h2 b1 b2 b3 b4 b5 b6 cA (nI k) tm hA rA lT jA pT cF v1 v2) gL_law_X1_cut rfl ⟨rfl, rfl⟩ hd_X1_cut ⟨Nat.le_of_ble_eq_true rfl, Nat.le_of_ble_eq_true rfl⟩ hK hPM rfl rfl rfl hl.1 rfl (Nat.le_of_ble_eq_true rfl) dL_law_341 ⟨Nat.le_of_ble_eq_true rfl, Nat.le_of_ble_eq_true rfl⟩ ?_
  refine lv_icmp_eq (tgt := 418) hx hb dL_law_344 (by decide) (fun c9 => ?_) (fun c9 => ?_)
  · exact back tm fN fM fJ fT fC hA rA lT jA pT cF (R) _ _ ls hP hD hS hl
  · exact absurd (show xCu tm fJ fT fC v1 v2 = mCu tm jA pT cF v1 v2 from R_cu R v1 v2) c9
set_option maxHeartbeats 4000000 in
set_option maxRecDepth 100000 in
theorem law_members {p : Program} {e : Env} {s : State} {m : MethodId} {below : List Frame} {meth : Method} {c : Code} {l : Launch} {b L : Nat} {xs : Nat → Int32} (hL : L ≤ 2049) (C0 : lw_At p s m meth c b L xs) {dC : Nat → ClassId} {dI : Nat → Nat → Nat} {h1 a1 a2 a3 a4 a5 h2 b1 b2 b3 b4 b5 b6 : Nat} {cA : ClassId} {k i : Nat} (hi : i + 4 ≤ L) (hK : va_K (dC, dI) vwCl [(cA, .int)] s) (back : ∀ (tm : Int32) (fN fM fJ fT fC hA rA lT jA pT cF : Nat → Int32), Rel k tm fN fM fJ fT fC hA rA lT jA pT cF → ∀ (H : Heap) (locs : List Loc) (ls : Array Slot), va_P (dC, dI) vwCl (wX h1 a1 a2 a3 a4 a5 cA (nI k) tm fN fM fJ fT fC ++ wM h2 b1 b2 b3 b4 b5 b6 cA (nI k) tm hA rA lT jA pT cF) H → va_D (fun q : Nat => s.heap.size ≤ q) (wX h1 a1 a2 a3 a4 a5 cA (nI k) tm fN fM fJ fT fC ++ wM h2 b1 b2 b3 b4 b5 b6 cA (nI k) tm hA rA lT jA pT cF) → va_S (fun q : Nat => s.heap.size ≤ q) s.heap H locs → lv_has ls 4 [(0, .ref b), (1, .ref h1), (2, .ref h2), (3, .int (nI i))] → W p l e room_1 s m #[Value.ref b] below meth c H locs 13 731 (lw_Z below #[Value.ref b] s) (F0 m 418 ls [])) (tm : Int32) (fN fM fJ fT fC hA rA lT jA pT cF : Nat → Int32) (R : Rel k tm fN fM fJ fT fC hA rA lT jA pT cF) (H : Heap) (locs : List Loc) (ls : Array Slot) (hP : va_P (dC, dI) vwCl (wX h1 a1 a2 a3 a4 a5 cA (nI k) tm fN fM fJ fT fC ++ wM h2 b1 b2 b3 b4 b5 b6 cA (nI k) tm hA rA lT jA pT cF) H) (hD : va_D (fun q : Nat => s.heap.size ≤ q) (wX h1 a1 a2 a3 a4 a5 cA (nI k) tm fN fM fJ fT fC ++ wM h2 b1 b2 b3 b4 b5 b6 cA (nI k) tm hA rA lT jA pT cF)) (hS : va_S (fun q : Nat => s.heap.size ≤ q) s.heap H locs) (hl : lv_has ls 4 [(0, .ref b), (1, .ref h1), (2, .ref h2), (3, .int (nI i))]) : W p l e room_1 s m #[Value.ref b] below meth c H locs 13 731 (lw_Z below #[Value.ref b] s) (F0 m 349 ls []) := by
  obtain ⟨hx, hb, hr, hml, hown, hts, hX, hbl, hlocks, hgv⟩ := id C0
  have hb : c.code = cL_law := hb
  have hown : s.vm.findClass RL = some m.cls := hown
  have hts : ∀ w ∈ wsL_law, w.before #[Value.ref b] s = true := fun w h => hts w (wsL_law_in w h)
  have S : CallFix p m c cL_law 4 s #[Value.ref b] wsL_law RL := ⟨hx, hb, hml, hown, hts⟩
  have hA9 : ∀ q : Nat, s.heap.size ≤ q → (fun q : Nat => s.heap.size ≤ q) q := fun _ h => h
  have hbA : ¬ (fun q : Nat => s.heap.size ≤ q) b := Nat.not_le.mpr hbl
  obtain ⟨v1, ev1⟩ : ∃ y : Int32, y = xs (i + 1) := ⟨_, rfl⟩
  refine lv_aload_n hx hb dL_law_349 rfl (lv_at hl 1 rfl) ?_
  refine lv_aload_n hx hb dL_law_350 rfl (lv_at hl 0 rfl) ?_
  refine lv_iload_n hx hb dL_law_351 rfl (lv_at hl 3 rfl) ?_
  refine lv_iconst (v := 1) hx hb dL_law_352 (by decide) ?_
  refine lv_iadd hx hb dL_law_353 ?_
  refine lv_top (x' := nI (i + 1)) (nI_add i 1) ?_
  refine va_sld hx hb hX hbl hbA hS (vp_in_nI (by omega) (by omega)) dL_law_354 ?_
  refine lv_top (x' := v1) (by rw [ev1, nI_clamp (by omega)]) ?_
  have hPX : va_P (dC, dI) vwCl (wX h1 a1 a2 a3 a4 a5 cA (nI k) tm fN fM fJ fT fC) H := hP.sub [0, 1, 2, 3, 4, 5] rfl
  have hPM : va_P (dC, dI) vwCl (wM h2 b1 b2 b3 b4 b5 b6 cA (nI k) tm hA rA lT jA pT cF) H := hP.sub [6, 7, 8, 9, 10, 11, 12] rfl
  refine rd_V (As := [.int v1]) (rest := []) (ci := 0) (qc := (RX0, TX0, 7)) S (c_X0_members l dC dI h1 a1 a2 a3 a4 a5 cA (nI k) tm fN fM fJ fT fC v1) gL_law_X0_members rfl ⟨rfl, rfl⟩ hd_X0_members ⟨Nat.le_of_ble_eq_true rfl, Nat.le_of_ble_eq_true rfl⟩ hK hPX rfl rfl rfl hl.1 rfl (Nat.le_of_ble_eq_true rfl) dL_law_355 ⟨Nat.le_of_ble_eq_true rfl, Nat.le_of_ble_eq_true rfl⟩ ?_
  refine lv_aload_n hx hb dL_law_358 rfl (lv_at hl 2 rfl) ?_
  refine lv_aload_n hx hb dL_law_359 rfl (lv_at hl 0 rfl) ?_
  refine lv_iload_n hx hb dL_law_360 rfl (lv_at hl 3 rfl) ?_
  refine lv_iconst (v := 1) hx hb dL_law_361 (by decide) ?_
  refine lv_iadd hx hb dL_law_362 ?_
  refine lv_top (x' := nI (i + 1)) (nI_add i 1) ?_
  refine va_sld hx hb hX hbl hbA hS (vp_in_nI (by omega) (by omega)) dL_law_363 ?_
  refine lv_top (x' := v1) (by rw [ev1, nI_clamp (by omega)]) ?_
  refine rd_V (As := [.int v1]) (rest := [.int (xMe tm fM v1)]) (ci := 1) (qc := (RX1, TX1, 8)) S (c_X1_members l dC dI h2 b1 b2 b3 b4 b5 b6 cA (nI k) tm hA rA lT jA pT cF v1) gL_law_X1_members rfl ⟨rfl, rfl⟩ hd_X1_members ⟨Nat.le_of_ble_eq_true rfl, Nat.le_of_ble_eq_true rfl⟩ hK hPM rfl rfl rfl hl.1 rfl (Nat.le_of_ble_eq_true rfl) dL_law_364 ⟨Nat.le_of_ble_eq_true rfl, Nat.le_of_ble_eq_true rfl⟩ ?_
  refine lv_icmp_eq (tgt := 418) hx hb dL_law_367 (by decide) (fun c9 => ?_) (fun c9 => ?_)
  · exact back tm fN fM fJ fT fC hA rA lT jA pT cF (R) _ _ ls hP hD hS hl
  · exact absurd (show xMe tm fM v1 = mMe tm rA lT v1 from R_me R v1) c9
set_option maxHeartbeats 4000000 in
set_option maxRecDepth 100000 in
theorem law_goes {p : Program} {e : Env} {s : State} {m : MethodId} {below : List Frame} {meth : Method} {c : Code} {l : Launch} {b L : Nat} {xs : Nat → Int32} (hL : L ≤ 2049) (C0 : lw_At p s m meth c b L xs) {dC : Nat → ClassId} {dI : Nat → Nat → Nat} {h1 a1 a2 a3 a4 a5 h2 b1 b2 b3 b4 b5 b6 : Nat} {cA : ClassId} {k i : Nat} (hi : i + 4 ≤ L) (hK : va_K (dC, dI) vwCl [(cA, .int)] s) (back : ∀ (tm : Int32) (fN fM fJ fT fC hA rA lT jA pT cF : Nat → Int32), Rel k tm fN fM fJ fT fC hA rA lT jA pT cF → ∀ (H : Heap) (locs : List Loc) (ls : Array Slot), va_P (dC, dI) vwCl (wX h1 a1 a2 a3 a4 a5 cA (nI k) tm fN fM fJ fT fC ++ wM h2 b1 b2 b3 b4 b5 b6 cA (nI k) tm hA rA lT jA pT cF) H → va_D (fun q : Nat => s.heap.size ≤ q) (wX h1 a1 a2 a3 a4 a5 cA (nI k) tm fN fM fJ fT fC ++ wM h2 b1 b2 b3 b4 b5 b6 cA (nI k) tm hA rA lT jA pT cF) → va_S (fun q : Nat => s.heap.size ≤ q) s.heap H locs → lv_has ls 4 [(0, .ref b), (1, .ref h1), (2, .ref h2), (3, .int (nI i))] → W p l e room_1 s m #[Value.ref b] below meth c H locs 13 731 (lw_Z below #[Value.ref b] s) (F0 m 418 ls [])) (tm : Int32) (fN fM fJ fT fC hA rA lT jA pT cF : Nat → Int32) (R : Rel k tm fN fM fJ fT fC hA rA lT jA pT cF) (H : Heap) (locs : List Loc) (ls : Array Slot) (hP : va_P (dC, dI) vwCl (wX h1 a1 a2 a3 a4 a5 cA (nI k) tm fN fM fJ fT fC ++ wM h2 b1 b2 b3 b4 b5 b6 cA (nI k) tm hA rA lT jA pT cF) H) (hD : va_D (fun q : Nat => s.heap.size ≤ q) (wX h1 a1 a2 a3 a4 a5 cA (nI k) tm fN fM fJ fT fC ++ wM h2 b1 b2 b3 b4 b5 b6 cA (nI k) tm hA rA lT jA pT cF)) (hS : va_S (fun q : Nat => s.heap.size ≤ q) s.heap H locs) (hl : lv_has ls 4 [(0, .ref b), (1, .ref h1), (2, .ref h2), (3, .int (nI i))]) : W p l e room_1 s m #[Value.ref b] below meth c H locs 13 731 (lw_Z below #[Value.ref b] s) (F0 m 372 ls []) := by
  obtain ⟨hx, hb, hr, hml, hown, hts, hX, hbl, hlocks, hgv⟩ := id C0
  have hb : c.code = cL_law := hb
  have hown : s.vm.findClass RL = some m.cls := hown
  have hts : ∀ w ∈ wsL_law, w.before #[Value.ref b] s = true := fun w h => hts w (wsL_law_in w h)
  have S : CallFix p m c cL_law 4 s #[Value.ref b] wsL_law RL := ⟨hx, hb, hml, hown, hts⟩
  have hA9 : ∀ q : Nat, s.heap.size ≤ q → (fun q : Nat => s.heap.size ≤ q) q := fun _ h => h
  have hbA : ¬ (fun q : Nat => s.heap.size ≤ q) b := Nat.not_le.mpr hbl
  obtain ⟨v1, ev1⟩ : ∃ y : Int32, y = xs (i + 1) := ⟨_, rfl⟩
  refine lv_aload_n hx hb dL_law_372 rfl (lv_at hl 1 rfl) ?_
  refine lv_aload_n hx hb dL_law_373 rfl (lv_at hl 0 rfl) ?_
  refine lv_iload_n hx hb dL_law_374 rfl (lv_at hl 3 rfl) ?_
  refine lv_iconst (v := 1) hx hb dL_law_375 (by decide) ?_
  refine lv_iadd hx hb dL_law_376 ?_
  refine lv_top (x' := nI (i + 1)) (nI_add i 1) ?_
  refine va_sld hx hb hX hbl hbA hS (vp_in_nI (by omega) (by omega)) dL_law_377 ?_
  refine lv_top (x' := v1) (by rw [ev1, nI_clamp (by omega)]) ?_
  have hPX : va_P (dC, dI) vwCl (wX h1 a1 a2 a3 a4 a5 cA (nI k) tm fN fM fJ fT fC) H := hP.sub [0, 1, 2, 3, 4, 5] rfl
  have hPM : va_P (dC, dI) vwCl (wM h2 b1 b2 b3 b4 b5 b6 cA (nI k) tm hA rA lT jA pT cF) H := hP.sub [6, 7, 8, 9, 10, 11, 12] rfl
  refine rd_V (As := [.int v1]) (rest := []) (ci := 0) (qc := (RX0, TX0, 7)) S (c_X0_goes l dC dI h1 a1 a2 a3 a4 a5 cA (nI k) tm fN fM fJ fT fC v1) gL_law_X0_goes rfl ⟨rfl, rfl⟩ hd_X0_goes ⟨Nat.le_of_ble_eq_true rfl, Nat.le_of_ble_eq_true rfl⟩ hK hPX rfl rfl rfl hl.1 rfl (Nat.le_of_ble_eq_true rfl) dL_law_378 ⟨Nat.le_of_ble_eq_true rfl, Nat.le_of_ble_eq_true rfl⟩ ?_
  refine lv_aload_n hx hb dL_law_381 rfl (lv_at hl 2 rfl) ?_
  refine lv_aload_n hx hb dL_law_382 rfl (lv_at hl 0 rfl) ?_
  refine lv_iload_n hx hb dL_law_383 rfl (lv_at hl 3 rfl) ?_
  refine lv_iconst (v := 1) hx hb dL_law_384 (by decide) ?_
  refine lv_iadd hx hb dL_law_385 ?_
  refine lv_top (x' := nI (i + 1)) (nI_add i 1) ?_
  refine va_sld hx hb hX hbl hbA hS (vp_in_nI (by omega) (by omega)) dL_law_386 ?_
  refine lv_top (x' := v1) (by rw [ev1, nI_clamp (by omega)]) ?_
  refine rd_V (As := [.int v1]) (rest := [.int (xGoes (nI k) tm fN fM fJ fT fC v1)]) (ci := 1) (qc := (RX1, TX1, 8)) S (c_X1_goes l dC dI h2 b1 b2 b3 b4 b5 b6 cA (nI k) tm hA rA lT jA pT cF v1) gL_law_X1_goes rfl ⟨rfl, rfl⟩ hd_X1_goes ⟨Nat.le_of_ble_eq_true rfl, Nat.le_of_ble_eq_true rfl⟩ hK hPM rfl rfl rfl hl.1 rfl (Nat.le_of_ble_eq_true rfl) dL_law_387 ⟨Nat.le_of_ble_eq_true rfl, Nat.le_of_ble_eq_true rfl⟩ ?_
  refine lv_icmp_eq (tgt := 418) hx hb dL_law_390 (by decide) (fun c9 => ?_) (fun c9 => ?_)
  · exact back tm fN fM fJ fT fC hA rA lT jA pT cF (R) _ _ ls hP hD hS hl
  · exact absurd (show xGoes (nI k) tm fN fM fJ fT fC v1 = mGoes (nI k) tm hA rA lT jA pT cF v1 from R_goes R v1) c9
set_option maxHeartbeats 4000000 in
set_option maxRecDepth 100000 in
theorem law_look {p : Program} {e : Env} {s : State} {m : MethodId} {below : List Frame} {meth : Method} {c : Code} {l : Launch} {b L : Nat} {xs : Nat → Int32} (hL : L ≤ 2049) (C0 : lw_At p s m meth c b L xs) {dC : Nat → ClassId} {dI : Nat → Nat → Nat} {h1 a1 a2 a3 a4 a5 h2 b1 b2 b3 b4 b5 b6 : Nat} {cA : ClassId} {k i : Nat} (hi : i + 4 ≤ L) (hK : va_K (dC, dI) vwCl [(cA, .int)] s) (back : ∀ (tm : Int32) (fN fM fJ fT fC hA rA lT jA pT cF : Nat → Int32), Rel k tm fN fM fJ fT fC hA rA lT jA pT cF → ∀ (H : Heap) (locs : List Loc) (ls : Array Slot), va_P (dC, dI) vwCl (wX h1 a1 a2 a3 a4 a5 cA (nI k) tm fN fM fJ fT fC ++ wM h2 b1 b2 b3 b4 b5 b6 cA (nI k) tm hA rA lT jA pT cF) H → va_D (fun q : Nat => s.heap.size ≤ q) (wX h1 a1 a2 a3 a4 a5 cA (nI k) tm fN fM fJ fT fC ++ wM h2 b1 b2 b3 b4 b5 b6 cA (nI k) tm hA rA lT jA pT cF) → va_S (fun q : Nat => s.heap.size ≤ q) s.heap H locs → lv_has ls 4 [(0, .ref b), (1, .ref h1), (2, .ref h2), (3, .int (nI i))] → W p l e room_1 s m #[Value.ref b] below meth c H locs 13 731 (lw_Z below #[Value.ref b] s) (F0 m 418 ls [])) (tm : Int32) (fN fM fJ fT fC hA rA lT jA pT cF : Nat → Int32) (R : Rel k tm fN fM fJ fT fC hA rA lT jA pT cF) (H : Heap) (locs : List Loc) (ls : Array Slot) (hP : va_P (dC, dI) vwCl (wX h1 a1 a2 a3 a4 a5 cA (nI k) tm fN fM fJ fT fC ++ wM h2 b1 b2 b3 b4 b5 b6 cA (nI k) tm hA rA lT jA pT cF) H) (hD : va_D (fun q : Nat => s.heap.size ≤ q) (wX h1 a1 a2 a3 a4 a5 cA (nI k) tm fN fM fJ fT fC ++ wM h2 b1 b2 b3 b4 b5 b6 cA (nI k) tm hA rA lT jA pT cF)) (hS : va_S (fun q : Nat => s.heap.size ≤ q) s.heap H locs) (hl : lv_has ls 4 [(0, .ref b), (1, .ref h1), (2, .ref h2), (3, .int (nI i))]) : W p l e room_1 s m #[Value.ref b] below meth c H locs 13 731 (lw_Z below #[Value.ref b] s) (F0 m 395 ls []) := by
  obtain ⟨hx, hb, hr, hml, hown, hts, hX, hbl, hlocks, hgv⟩ := id C0
  have hb : c.code = cL_law := hb
  have hown : s.vm.findClass RL = some m.cls := hown
  have hts : ∀ w ∈ wsL_law, w.before #[Value.ref b] s = true := fun w h => hts w (wsL_law_in w h)
  have S : CallFix p m c cL_law 4 s #[Value.ref b] wsL_law RL := ⟨hx, hb, hml, hown, hts⟩
  have hA9 : ∀ q : Nat, s.heap.size ≤ q → (fun q : Nat => s.heap.size ≤ q) q := fun _ h => h
  have hbA : ¬ (fun q : Nat => s.heap.size ≤ q) b := Nat.not_le.mpr hbl
  obtain ⟨v1, ev1⟩ : ∃ y : Int32, y = xs (i + 1) := ⟨_, rfl⟩
  refine lv_aload_n hx hb dL_law_395 rfl (lv_at hl 1 rfl) ?_
  refine lv_aload_n hx hb dL_law_396 rfl (lv_at hl 0 rfl) ?_
  refine lv_iload_n hx hb dL_law_397 rfl (lv_at hl 3 rfl) ?_
  refine lv_iconst (v := 1) hx hb dL_law_398 (by decide) ?_
  refine lv_iadd hx hb dL_law_399 ?_
  refine lv_top (x' := nI (i + 1)) (nI_add i 1) ?_
  refine va_sld hx hb hX hbl hbA hS (vp_in_nI (by omega) (by omega)) dL_law_400 ?_
  refine lv_top (x' := v1) (by rw [ev1, nI_clamp (by omega)]) ?_
  have hPX : va_P (dC, dI) vwCl (wX h1 a1 a2 a3 a4 a5 cA (nI k) tm fN fM fJ fT fC) H := hP.sub [0, 1, 2, 3, 4, 5] rfl
  have hPM : va_P (dC, dI) vwCl (wM h2 b1 b2 b3 b4 b5 b6 cA (nI k) tm hA rA lT jA pT cF) H := hP.sub [6, 7, 8, 9, 10, 11, 12] rfl
  refine rd_V (As := [.int v1]) (rest := []) (ci := 0) (qc := (RX0, TX0, 7)) S (c_X0_look l dC dI h1 a1 a2 a3 a4 a5 cA (nI k) tm fN fM fJ fT fC v1) gL_law_X0_look rfl ⟨rfl, rfl⟩ hd_X0_look ⟨Nat.le_of_ble_eq_true rfl, Nat.le_of_ble_eq_true rfl⟩ hK hPX rfl rfl rfl hl.1 rfl (Nat.le_of_ble_eq_true rfl) dL_law_401 ⟨Nat.le_of_ble_eq_true rfl, Nat.le_of_ble_eq_true rfl⟩ ?_
  refine lv_aload_n hx hb dL_law_404 rfl (lv_at hl 2 rfl) ?_
  refine lv_aload_n hx hb dL_law_405 rfl (lv_at hl 0 rfl) ?_
  refine lv_iload_n hx hb dL_law_406 rfl (lv_at hl 3 rfl) ?_
  refine lv_iconst (v := 1) hx hb dL_law_407 (by decide) ?_
  refine lv_iadd hx hb dL_law_408 ?_
  refine lv_top (x' := nI (i + 1)) (nI_add i 1) ?_
  refine va_sld hx hb hX hbl hbA hS (vp_in_nI (by omega) (by omega)) dL_law_409 ?_
  refine lv_top (x' := v1) (by rw [ev1, nI_clamp (by omega)]) ?_
  refine rd_V (As := [.int v1]) (rest := [.int (xLook (nI k) tm fN fM fJ fT fC v1)]) (ci := 1) (qc := (RX1, TX1, 8)) S (c_X1_look l dC dI h2 b1 b2 b3 b4 b5 b6 cA (nI k) tm hA rA lT jA pT cF v1 ((shl_ne (by have := R.1; omega)))) gL_law_X1_look rfl ⟨rfl, rfl⟩ hd_X1_look ⟨Nat.le_of_ble_eq_true rfl, Nat.le_of_ble_eq_true rfl⟩ hK hPM rfl rfl rfl hl.1 rfl (Nat.le_of_ble_eq_true rfl) dL_law_410 ⟨Nat.le_of_ble_eq_true rfl, Nat.le_of_ble_eq_true rfl⟩ ?_
  refine lv_icmp_eq (tgt := 418) hx hb dL_law_413 (by decide) (fun c9 => ?_) (fun c9 => ?_)
  · exact back tm fN fM fJ fT fC hA rA lT jA pT cF (R) _ _ ls hP hD hS hl
  · exact absurd (show xLook (nI k) tm fN fM fJ fT fC v1 = mLook (nI k) tm hA rA lT jA pT cF v1 from R_look R v1) c9
end
section
set_option maxHeartbeats 4000000 in
set_option maxRecDepth 100000 in
theorem law_loop {p : Program} {e : Env} {s : State} {m : MethodId} {below : List Frame} {meth : Method} {c : Code} {l : Launch} {b L : Nat} {xs : Nat → Int32} (hL : L ≤ 2049) (C0 : lw_At p s m meth c b L xs) {dC : Nat → ClassId} {dI : Nat → Nat → Nat} {h1 a1 a2 a3 a4 a5 h2 b1 b2 b3 b4 b5 b6 : Nat} {cA : ClassId} {k : Nat} (hK : va_K (dC, dI) vwCl [(cA, .int)] s) : ∀ (n i : Nat), i ≤ L + 1 → L + 2 ≤ i + n → ∀ (tm : Int32) (fN fM fJ fT fC hA rA lT jA pT cF : Nat → Int32), Rel k tm fN fM fJ fT fC hA rA lT jA pT cF → ∀ (H : Heap) (locs : List Loc) (ls : Array Slot), va_P (dC, dI) vwCl (wX h1 a1 a2 a3 a4 a5 cA (nI k) tm fN fM fJ fT fC ++ wM h2 b1 b2 b3 b4 b5 b6 cA (nI k) tm hA rA lT jA pT cF) H → va_D (fun q : Nat => s.heap.size ≤ q) (wX h1 a1 a2 a3 a4 a5 cA (nI k) tm fN fM fJ fT fC ++ wM h2 b1 b2 b3 b4 b5 b6 cA (nI k) tm hA rA lT jA pT cF) → va_S (fun q : Nat => s.heap.size ≤ q) s.heap H locs → lv_has ls 4 [(0, .ref b), (1, .ref h1), (2, .ref h2), (3, .int (nI i))] → W p l e room_1 s m #[Value.ref b] below meth c H locs 13 731 (lw_Z below #[Value.ref b] s) (F0 m 28 ls []) := by
  obtain ⟨hx, hb, hr, hml, hown, hts, hX, hbl, hlocks, hgv⟩ := id C0
  have hb : c.code = cL_law := hb
  have hown : s.vm.findClass RL = some m.cls := hown
  have hts : ∀ w ∈ wsL_law, w.before #[Value.ref b] s = true := fun w h => hts w (wsL_law_in w h)
  have S : CallFix p m c cL_law 4 s #[Value.ref b] wsL_law RL := ⟨hx, hb, hml, hown, hts⟩
  have hA9 : ∀ q : Nat, s.heap.size ≤ q → (fun q : Nat => s.heap.size ≤ q) q := fun _ h => h
  have hbA : ¬ (fun q : Nat => s.heap.size ≤ q) b := Nat.not_le.mpr hbl
  intro n
  induction n with
  | zero =>
    intro i h1 h2
    exact absurd h2 (by omega)
  | succ n ih =>
    intro i hi1 hin tm fN fM fJ fT fC hA rA lT jA pT cF R H locs ls hP hD hS hl
    refine lv_iload_n hx hb dL_law_28 rfl (lv_at hl 3 rfl) ?_
    refine lv_aload_n hx hb dL_law_29 rfl (lv_at hl 0 rfl) ?_
    refine va_slen hx hb hX hbl hbA hS dL_law_30 ?_
    refine lv_iconst (v := 4) hx hb dL_law_31 (by decide) ?_
    refine lv_isub hx hb dL_law_32 ?_
    refine lv_top (x' := nI L - nI 4) rfl ?_
    have eL : (nI L - nI 4).toInt = (L : Int) - 4 := pk_sub_toInt (by omega) (by decide)
    have eI : (nI i).toInt = (i : Int) := nI_toInt (by omega)
    refine lv_icmp_gt (tgt := 424) hx hb dL_law_33 (by decide) (fun c33 => ?_) (fun c33 => ?_)
    · refine lv_iconst (v := 1) hx hb dL_law_424 (by decide) ?_
      refine va_forget (fun q hq => hS.2.2 q hq) ?_
      exact lw_ret hx hb hr hlocks dL_law_425
    · rw [toI_lt, eL, eI] at c33
      have hi : i + 4 ≤ L := by omega
      have back : ∀ (tm : Int32) (fN fM fJ fT fC hA rA lT jA pT cF : Nat → Int32), Rel k tm fN fM fJ fT fC hA rA lT jA pT cF → ∀ (H : Heap) (locs : List Loc) (ls : Array Slot), va_P (dC, dI) vwCl (wX h1 a1 a2 a3 a4 a5 cA (nI k) tm fN fM fJ fT fC ++ wM h2 b1 b2 b3 b4 b5 b6 cA (nI k) tm hA rA lT jA pT cF) H → va_D (fun q : Nat => s.heap.size ≤ q) (wX h1 a1 a2 a3 a4 a5 cA (nI k) tm fN fM fJ fT fC ++ wM h2 b1 b2 b3 b4 b5 b6 cA (nI k) tm hA rA lT jA pT cF) → va_S (fun q : Nat => s.heap.size ≤ q) s.heap H locs → lv_has ls 4 [(0, .ref b), (1, .ref h1), (2, .ref h2), (3, .int (nI i))] → W p l e room_1 s m #[Value.ref b] below meth c H locs 13 731 (lw_Z below #[Value.ref b] s) (F0 m 418 ls []) := by
        intro tm fN fM fJ fT fC hA rA lT jA pT cF R H locs ls hP hD hS hl
        refine lv_iinc (v := nI (i + 4)) (lv' := [(3, .int (nI (i + 4))), (0, .ref b), (1, .ref h1), (2, .ref h2)]) hx hb dL_law_418 hl (k := 3) rfl (nI_add i 4) (by decide) rfl (fun ls hl => ?_)
        refine lv_goto (tgt := 28) hx hb dL_law_421 (by decide) ?_
        exact ih (i + 4) (by omega) (by omega) tm fN fM fJ fT fC hA rA lT jA pT cF R _ _ ls hP hD hS (lv_sub hl [1, 2, 3, 0] rfl)
      refine lv_aload_n hx hb dL_law_36 rfl (lv_at hl 0 rfl) ?_
      refine lv_iload_n hx hb dL_law_37 rfl (lv_at hl 3 rfl) ?_
      refine va_sld hx hb hX hbl hbA hS (vp_in_nI (by omega) (by omega)) dL_law_38 ?_
      refine lv_bipush (v := 15) hx hb dL_law_39 (by decide) ?_
      refine lv_iand hx hb dL_law_41 ?_
      obtain ⟨j, hj, ej⟩ := pk_andE (xs (nI i).toNatClampNeg) (m := 15) 4 (by decide)
      refine lv_top (x' := nI j) ej ?_
      have hj : j < 16 := hj
      have hcase : j = 0 ∨ j = 1 ∨ j = 2 ∨ j = 3 ∨ j = 4 ∨ j = 5 ∨ j = 6 ∨ j = 7 ∨ j = 8 ∨ j = 9 ∨ j = 10 ∨ j = 11 ∨ j = 12 ∨ j = 13 ∨ j = 14 ∨ j = 15 := by omega
      rcases hcase with rfl | rfl | rfl | rfl | rfl | rfl | rfl | rfl | rfl | rfl | rfl | rfl | rfl | rfl | rfl | rfl
      · refine lv_tableIn (off := 62) (tgt := 104) hx hb dL_law_42 (by decide) (by decide) rfl (by decide) ?_
        exact law_tick hL C0 hi hK back tm fN fM fJ fT fC hA rA lT jA pT cF R H locs ls hP hD hS hl
      · refine lv_tableIn (off := 85) (tgt := 127) hx hb dL_law_42 (by decide) (by decide) rfl (by decide) ?_
        exact law_hello hL C0 hi hK back tm fN fM fJ fT fC hA rA lT jA pT cF R H locs ls hP hD hS hl
      · refine lv_tableIn (off := 108) (tgt := 150) hx hb dL_law_42 (by decide) (by decide) rfl (by decide) ?_
        exact law_report hL C0 hi hK back tm fN fM fJ fT fC hA rA lT jA pT cF R H locs ls hP hD hS hl
      · refine lv_tableIn (off := 131) (tgt := 173) hx hb dL_law_42 (by decide) (by decide) rfl (by decide) ?_
        exact law_leave hL C0 hi hK back tm fN fM fJ fT fC hA rA lT jA pT cF R H locs ls hP hD hS hl
      · refine lv_tableIn (off := 154) (tgt := 196) hx hb dL_law_42 (by decide) (by decide) rfl (by decide) ?_
        exact law_join hL C0 hi hK back tm fN fM fJ fT fC hA rA lT jA pT cF R H locs ls hP hD hS hl
      · refine lv_tableIn (off := 197) (tgt := 239) hx hb dL_law_42 (by decide) (by decide) rfl (by decide) ?_
        exact law_prune hL C0 hi hK back tm fN fM fJ fT fC hA rA lT jA pT cF R H locs ls hP hD hS hl
      · refine lv_tableIn (off := 230) (tgt := 272) hx hb dL_law_42 (by decide) (by decide) rfl (by decide) ?_
        exact law_forget hL C0 hi hK back tm fN fM fJ fT fC hA rA lT jA pT cF R H locs ls hP hD hS hl
      · refine lv_tableIn (off := 241) (tgt := 283) hx hb dL_law_42 (by decide) (by decide) rfl (by decide) ?_
        exact law_joined hL C0 hi hK back tm fN fM fJ fT fC hA rA lT jA pT cF R H locs ls hP hD hS hl
      · refine lv_tableIn (off := 274) (tgt := 316) hx hb dL_law_42 (by decide) (by decide) rfl (by decide) ?_
        exact law_cut hL C0 hi hK back tm fN fM fJ fT fC hA rA lT jA pT cF R H locs ls hP hD hS hl
      · refine lv_tableIn (off := 307) (tgt := 349) hx hb dL_law_42 (by decide) (by decide) rfl (by decide) ?_
        exact law_members hL C0 hi hK back tm fN fM fJ fT fC hA rA lT jA pT cF R H locs ls hP hD hS hl
      · refine lv_tableIn (off := 330) (tgt := 372) hx hb dL_law_42 (by decide) (by decide) rfl (by decide) ?_
        exact law_goes hL C0 hi hK back tm fN fM fJ fT fC hA rA lT jA pT cF R H locs ls hP hD hS hl
      · refine lv_tableIn (off := 353) (tgt := 395) hx hb dL_law_42 (by decide) (by decide) rfl (by decide) ?_
        exact law_look hL C0 hi hK back tm fN fM fJ fT fC hA rA lT jA pT cF R H locs ls hP hD hS hl
      · refine lv_tableOut (tgt := 418) hx hb dL_law_42 (Or.inr (by decide)) (by decide) ?_
        exact back tm fN fM fJ fT fC hA rA lT jA pT cF R H locs ls hP hD hS hl
      · refine lv_tableOut (tgt := 418) hx hb dL_law_42 (Or.inr (by decide)) (by decide) ?_
        exact back tm fN fM fJ fT fC hA rA lT jA pT cF R H locs ls hP hD hS hl
      · refine lv_tableOut (tgt := 418) hx hb dL_law_42 (Or.inr (by decide)) (by decide) ?_
        exact back tm fN fM fJ fT fC hA rA lT jA pT cF R H locs ls hP hD hS hl
      · refine lv_tableOut (tgt := 418) hx hb dL_law_42 (Or.inr (by decide)) (by decide) ?_
        exact back tm fN fM fJ fT fC hA rA lT jA pT cF R H locs ls hP hD hS hl
set_option maxHeartbeats 4000000 in
set_option maxRecDepth 100000 in
theorem whole_start {p : Program} {e : Env} {s : State} {m : MethodId} {below : List Frame} {meth : Method} {c : Code} (l : Launch) {b L : Nat} {xs : Nat → Int32} (hL : L ≤ 2049) (C0 : lw_At p s m meth c b L xs) : W p l e room_1 s m #[Value.ref b] below meth c s.heap [] 0 0 (lw_Z below #[Value.ref b] s) (entryFrame m ([Value.ref b] : List Value).toArray 4) := by
  obtain ⟨hx, hb, hr, hml, hown, hts, hX, hbl, hlocks, hgv⟩ := id C0
  have hb : c.code = cL_law := hb
  have hown : s.vm.findClass RL = some m.cls := hown
  have hts : ∀ w ∈ wsL_law, w.before #[Value.ref b] s = true := fun w h => hts w (wsL_law_in w h)
  have S : CallFix p m c cL_law 4 s #[Value.ref b] wsL_law RL := ⟨hx, hb, hml, hown, hts⟩
  have hA9 : ∀ q : Nat, s.heap.size ≤ q → (fun q : Nat => s.heap.size ≤ q) q := fun _ h => h
  have hbA : ¬ (fun q : Nat => s.heap.size ≤ q) b := Nat.not_le.mpr hbl
  obtain ⟨c0, iS0, hKn0⟩ := u_known (C := RX0) (T := TX0) (N := 7) (n := 7) hts inlX0 (hts (.instantiable RX0 7) (by decide +kernel))
  obtain ⟨c1, iS1, hKn1⟩ := u_known (C := RX1) (T := TX1) (N := 8) (n := 8) hts inlX1 (hts (.instantiable RX1 8) (by decide +kernel))
  obtain ⟨dC, dI, hKc⟩ : ∃ (dC : Nat → ClassId) (dI : Nat → Nat → Nat), ∀ (k : Nat) (q : vw_C), vwCl[k]? = some q → u_Kn s q.1 q.2.1 q.2.2 (dC k) (dI k) := by
    refine ⟨fun k => if k = 0 then c0 else c1, fun k => if k = 0 then iS0 else iS1, ?_⟩
    intro k q hq
    match k, hq with
    | 0, hq => cases hq; exact hKn0
    | 1, hq => cases hq; exact hKn1
    | k + 2, hq => simp [vwCl] at hq
  have hS : va_S (fun q : Nat => s.heap.size ≤ q) s.heap s.heap [] := va_S.rf
  have hK : va_K (dC, dI) vwCl [] s := ⟨hKc, fun k q h => by simp at h⟩
  have hP : va_P (dC, dI) vwCl [] s.heap := fun k q h => by simp at h
  have hD : va_D (fun q : Nat => s.heap.size ≤ q) [] := ⟨fun i j p q h => by simp at h, fun k q h => by simp at h⟩
  have hl := lv_entry ([.ref b]) (n := 4) (Nat.le_of_ble_eq_true rfl)
  rw [lg_entry_eq]
  generalize (lg_sl ([.ref b]) ++ List.replicate (4 - (lg_sl ([.ref b])).length) Slot.unset).toArray = ls at hl ⊢
  have hl : lv_has ls 4 [(0, .ref b)] := hl
  have hL31 : L < 2 ^ 31 := by omega
  obtain ⟨v0, ev0⟩ : ∃ y : Int32, y = (if 0 < L then xs 0 else 0) := ⟨_, rfl⟩
  obtain ⟨k, hk, ek1, ek2⟩ := me_of v0
  refine va_new (ci := 0) (fs := [.int 0, .int 0, .null, .null, .null, .null, .null]) (C := RX0) (T := TX0) (N := 7) hx hb hts inlX0 tyX0 tyX0_ok hown (hts (.classLink RL 7 RX0) (by decide +kernel)) (hts (.instantiable RX0 7) (by decide +kernel)) (hts (.initialized RX0) (by decide +kernel)) hK hP hD hS hA9 rfl (fun j hj => by rcases (show j = 0 ∨ j = 1 ∨ j = 2 ∨ j = 3 ∨ j = 4 ∨ j = 5 ∨ j = 6 by omega) with rfl | rfl | rfl | rfl | rfl | rfl | rfl <;> rfl) (Nat.le_of_ble_eq_true rfl) (Nat.le_of_ble_eq_true rfl) dL_law_0 (fun h1 H hP hD hS => ?_)
  have hP : va_P (dC, dI) vwCl [(h1, .inr (0, [.int 0, .int 0, .null, .null, .null, .null, .null]))] H := hP
  have hD : va_D (fun q : Nat => s.heap.size ≤ q) [(h1, .inr (0, [.int 0, .int 0, .null, .null, .null, .null, .null]))] := hD
  refine W.widen (k := 1) (n := 7) (Nat.le_of_ble_eq_true rfl) (Nat.le_of_ble_eq_true rfl) ?_
  refine lv_dup hx hb dL_law_3 rfl ?_
  refine lv_aload_n hx hb dL_law_4 rfl (lv_at hl 0 rfl) ?_
  refine lv_iconst (v := 0) hx hb dL_law_5 (by decide) ?_
  refine W.callR (W.runS (As := [.ref b, .int 0]) (rest := [.ref h1, .ref h1]) S (c_L_cell l b L xs hL31) (va_cwS 2 hts gL_law_L_cell rfl rfl rfl hd_L_cell ⟨Nat.le_of_ble_eq_true rfl, Nat.le_of_ble_eq_true rfl⟩) ⟨fun a U g mk q => ⟨q.1, va_X.moved (u := U) (U := U.calling g mk a) (Vm.Alike.refl U.vm) q.2⟩, fun U hU hW => ⟨rfl, by show va_X b L xs U U.heap; rw [hU]; exact va_X.moved hW.alike (va_X.kept hX (hS.2.1 b hbl hbA))⟩⟩ rfl rfl hl.1 rfl (lv_room (Nat.le_of_ble_eq_true rfl)) dL_law_6 ⟨Nat.le_of_ble_eq_true rfl, Nat.le_of_ble_eq_true rfl⟩) ?_
  refine lv_top (x' := v0) ev0.symm ?_
  have hPc := hP.sub (ws' := [(h1, .inr (0, [.int 0, .int 0, .null, .null, .null, .null, .null]))]) [0] rfl
  have hDc := hD.sub (ws' := [(h1, .inr (0, [.int 0, .int 0, .null, .null, .null, .null, .null]))]) [0] (by decide) rfl
  have hKc := hK.sub (tys' := []) [] rfl
  have hFc := va_free (wc := [(h1, .inr (0, [.int 0, .int 0, .null, .null, .null, .null, .null]))]) hD hS hA9 [0] rfl
  refine va_callv (va_runI (As := [.int v0]) (rest := [.ref h1]) S (c_X0_init l dC dI h1 0 0 v0 H.size) (cwI 1 hts gL_law_X0_init rfl rfl rfl (hts (.initialized RX0) (by decide +kernel)) (hts (.methodLink RL 15 yX0_init) (by decide +kernel)) (hts (.instanceMethod yX0_init) (by decide +kernel)) rfl (by decide +kernel) ⟨Nat.le_of_ble_eq_true rfl, Nat.le_of_ble_eq_true rfl⟩) ⟨fun a U g mk q => by obtain ⟨q0, q1, qP, qK, qD⟩ := q; exact ⟨q0, q1, qP, va_K.moved (u := U) (U := U.calling g mk a) (Vm.Alike.refl U.vm) qK, qD⟩, fun U hU hW => ⟨rfl, by rw [hU], by rw [hU]; exact hPc, va_K.moved hW.alike hKc, hDc.weaken (fun _ _ _ _ => trivial)⟩⟩ rfl rfl hl.1 rfl (lv_room (Nat.le_of_ble_eq_true rfl)) dL_law_9 ⟨Nat.le_of_ble_eq_true rfl, Nat.le_of_ble_eq_true rfl⟩) hS (fun q _ h => hFc q h) hFc (fun u t H1 locs ht hvm hw hB hz1 hk1 hS => ?_)
  obtain ⟨a1, a2, a3, a4, a5, cA, hP1, hK1, hD1⟩ := hB
  rw [ht] at hP1
  have hK1 := va_K.moved hvm.symm hK1
  obtain ⟨hP, hD⟩ := va_join (wr := []) (w1 := wX h1 a1 a2 a3 a4 a5 cA (xMe0 v0) 0 (fun _ => 0) (fun _ => 0) (fun _ => 0) (fun _ => 0) (fun _ => 0)) hP hD [0] [] rfl rfl (by decide) (by decide) hk1 hFc hP1 hD1
  have hK : va_K (dC, dI) vwCl [(cA, .int)] s := hK1
  generalize H1 = H at hP hS ⊢
  have hP : va_P (dC, dI) vwCl (wX h1 a1 a2 a3 a4 a5 cA (xMe0 v0) 0 (fun _ => 0) (fun _ => 0) (fun _ => 0) (fun _ => 0) (fun _ => 0)) H := hP
  have hD : va_D (fun q : Nat => s.heap.size ≤ q) (wX h1 a1 a2 a3 a4 a5 cA (xMe0 v0) 0 (fun _ => 0) (fun _ => 0) (fun _ => 0) (fun _ => 0) (fun _ => 0)) := hD
  refine W.widen (k := 6) (n := 297) (Nat.le_of_ble_eq_true rfl) (Nat.le_of_ble_eq_true rfl) ?_
  refine lv_astore_n (lv' := [(1, .ref h1), (0, .ref b)]) hx hb dL_law_12 rfl hl (by decide) rfl (fun ls hl => ?_)
  refine va_new (ci := 1) (fs := [.int 0, .int 0, .null, .null, .null, .null, .null, .null]) (C := RX1) (T := TX1) (N := 8) hx hb hts inlX1 tyX1 tyX1_ok hown (hts (.classLink RL 18 RX1) (by decide +kernel)) (hts (.instantiable RX1 8) (by decide +kernel)) (hts (.initialized RX1) (by decide +kernel)) hK hP hD hS hA9 rfl (fun j hj => by rcases (show j = 0 ∨ j = 1 ∨ j = 2 ∨ j = 3 ∨ j = 4 ∨ j = 5 ∨ j = 6 ∨ j = 7 by omega) with rfl | rfl | rfl | rfl | rfl | rfl | rfl | rfl <;> rfl) (Nat.le_of_ble_eq_true rfl) (Nat.le_of_ble_eq_true rfl) dL_law_13 (fun h2 H hP hD hS => ?_)
  have hP : va_P (dC, dI) vwCl (wX h1 a1 a2 a3 a4 a5 cA (xMe0 v0) 0 (fun _ => 0) (fun _ => 0) (fun _ => 0) (fun _ => 0) (fun _ => 0) ++ [(h2, .inr (1, [.int 0, .int 0, .null, .null, .null, .null, .null, .null]))]) H := hP
  have hD : va_D (fun q : Nat => s.heap.size ≤ q) (wX h1 a1 a2 a3 a4 a5 cA (xMe0 v0) 0 (fun _ => 0) (fun _ => 0) (fun _ => 0) (fun _ => 0) (fun _ => 0) ++ [(h2, .inr (1, [.int 0, .int 0, .null, .null, .null, .null, .null, .null]))]) := hD
  refine W.widen (k := 7) (n := 305) (Nat.le_of_ble_eq_true rfl) (Nat.le_of_ble_eq_true rfl) ?_
  refine lv_dup hx hb dL_law_16 rfl ?_
  refine lv_aload_n hx hb dL_law_17 rfl (lv_at hl 1 rfl) ?_
  refine lv_iconst (v := 0) hx hb dL_law_18 (by decide) ?_
  refine W.callR (W.runS (As := [.ref b, .int 0]) (rest := [.ref h2, .ref h2]) S (c_L_cell l b L xs hL31) (va_cwS 2 hts gL_law_L_cell rfl rfl rfl hd_L_cell ⟨Nat.le_of_ble_eq_true rfl, Nat.le_of_ble_eq_true rfl⟩) ⟨fun a U g mk q => ⟨q.1, va_X.moved (u := U) (U := U.calling g mk a) (Vm.Alike.refl U.vm) q.2⟩, fun U hU hW => ⟨rfl, by show va_X b L xs U U.heap; rw [hU]; exact va_X.moved hW.alike (va_X.kept hX (hS.2.1 b hbl hbA))⟩⟩ rfl rfl hl.1 rfl (lv_room (Nat.le_of_ble_eq_true rfl)) dL_law_19 ⟨Nat.le_of_ble_eq_true rfl, Nat.le_of_ble_eq_true rfl⟩) ?_
  refine lv_top (x' := v0) ev0.symm ?_
  have hPc := hP.sub (ws' := [(h2, .inr (1, [.int 0, .int 0, .null, .null, .null, .null, .null, .null]))]) [6] rfl
  have hDc := hD.sub (ws' := [(h2, .inr (1, [.int 0, .int 0, .null, .null, .null, .null, .null, .null]))]) [6] (by decide) rfl
  have hKc := hK.sub (tys' := []) [] rfl
  have hFc := va_free (wc := [(h2, .inr (1, [.int 0, .int 0, .null, .null, .null, .null, .null, .null]))]) hD hS hA9 [6] rfl
  refine va_callv (va_runI (As := [.int v0]) (rest := [.ref h2]) S (c_X1_init l dC dI h2 0 0 v0 H.size) (cwI 1 hts gL_law_X1_init rfl rfl rfl (hts (.initialized RX1) (by decide +kernel)) (hts (.methodLink RL 20 yX1_init) (by decide +kernel)) (hts (.instanceMethod yX1_init) (by decide +kernel)) rfl (by decide +kernel) ⟨Nat.le_of_ble_eq_true rfl, Nat.le_of_ble_eq_true rfl⟩) ⟨fun a U g mk q => by obtain ⟨q0, q1, qP, qK, qD⟩ := q; exact ⟨q0, q1, qP, va_K.moved (u := U) (U := U.calling g mk a) (Vm.Alike.refl U.vm) qK, qD⟩, fun U hU hW => ⟨rfl, by rw [hU], by rw [hU]; exact hPc, va_K.moved hW.alike hKc, hDc.weaken (fun _ _ _ _ => trivial)⟩⟩ rfl rfl hl.1 rfl (lv_room (Nat.le_of_ble_eq_true rfl)) dL_law_22 ⟨Nat.le_of_ble_eq_true rfl, Nat.le_of_ble_eq_true rfl⟩) hS (fun q _ h => hFc q h) hFc (fun u t H1 locs ht hvm hw hB hz1 hk1 hS => ?_)
  obtain ⟨b1, b2, b3, b4, b5, b6, cB, hP1, hK1, hD1⟩ := hB
  rw [ht] at hP1
  have hK1 := va_K.moved hvm.symm hK1
  have hcc : cA = cB := (int_one (hK.app hK1)).symm
  subst hcc
  obtain ⟨hP, hD⟩ := va_join (wr := wX h1 a1 a2 a3 a4 a5 cA (xMe0 v0) 0 (fun _ => 0) (fun _ => 0) (fun _ => 0) (fun _ => 0) (fun _ => 0)) (w1 := wM h2 b1 b2 b3 b4 b5 b6 cA (mMe0 v0) 0 (fillI (fun _ => 0) (-1 : Int32) 10) (fillI (fun _ => 0) (-1 : Int32) 8) (fun _ => 0) (fillI (fun _ => 0) (-1 : Int32) 136) (fun _ => 0) (fillI (fun _ => 0) (-1 : Int32) 128)) hP hD [6] [0, 1, 2, 3, 4, 5] rfl rfl (by decide) (by decide) hk1 hFc hP1 hD1
  generalize H1 = H at hP hS ⊢
  rw [ek1, ek2] at hP hD
  refine W.widen (k := 13) (n := 731) (Nat.le_of_ble_eq_true rfl) (Nat.le_of_ble_eq_true rfl) ?_
  refine lv_astore_n (lv' := [(2, .ref h2), (1, .ref h1), (0, .ref b)]) hx hb dL_law_25 rfl hl (by decide) rfl (fun ls hl => ?_)
  refine lv_iconst (v := 1) hx hb dL_law_26 (by decide) ?_
  refine lv_istore_n (lv' := [(3, .int 1), (2, .ref h2), (1, .ref h1), (0, .ref b)]) hx hb dL_law_27 rfl hl (by decide) rfl (fun ls hl => ?_)
  exact law_loop hL C0 hK (L + 1) 1 (by omega) (by omega) 0 (fun _ => 0) (fun _ => 0) (fun _ => 0) (fun _ => 0) (fun _ => 0) (fillI (fun _ => 0) (-1 : Int32) 10) (fillI (fun _ => 0) (-1 : Int32) 8) (fun _ => 0) (fillI (fun _ => 0) (-1 : Int32) 136) (fun _ => 0) (fillI (fun _ => 0) (-1 : Int32) 128) (R_start hk) _ _ ls hP hD hS (lv_sub hl [3, 2, 1, 0] rfl)
end
section
set_option maxHeartbeats 4000000 in
theorem lw_walk (l : Launch) (b : Addr) (xs : List Int32) : MetFree l x (headSpec (Jvm.Cond.code x code maxLocals ret :: tables_1) room_1) (lw_P b xs) (fun _ _ _ _ _ => True) lw_Q := by
  refine MetFree.of_bodyS (code := code) (maxLocals := maxLocals) (ret := ret) (by decide) ?_ ?_
  · intro args s m h hn
    obtain ⟨meth, c, h1, h2, h3, h4, h5, h6, -, -⟩ := Cond.code_spec hn (atoms_spec (ws := Jvm.Cond.code x code maxLocals ret :: tables_1) h _ List.mem_cons_self)
    exact ⟨meth, c, h1, h2, h3, h4, h5, h6⟩
  · intro p e s m args below meth c s₁ B hml0 hP _
    obtain ⟨rfl, hx, hbd, hgv⟩ := hP
    obtain ⟨scr, harrAt, hlist, hof, hsmall⟩ := hx
    obtain ⟨hcb, hkn, -, -⟩ := State.arrayAt?_spec harrAt
    have hown : s.vm.findClass R_law = some m.cls := findClass_of_methodNamed B.named
    have hts0 : ∀ c ∈ (Jvm.Cond.code x code maxLocals ret :: tables_1), c.before #[Value.ref b] s = true := atoms_spec (ws := Jvm.Cond.code x code maxLocals ret :: tables_1) B.pre
    have hts : ∀ w ∈ lw_tbl, w.before #[Value.ref b] s = true := k2_hts_sels lw_privs (fun w hw => hts0 w (List.mem_cons_of_mem _ hw)) lw_privs_ok
    have hml : c.maxLocals = 4 := B.maxLocals_eq (hts0 _ List.mem_cons_self)
    have X₀ : Stand p l e room_1 s m #[Value.ref b] below meth c s₁ [] 0 0 := Stand.of_body B
    have hh0 : s₁.heap = s.heap := by rw [B.state]; rfl
    have hsz : scr.slots.size = xs.length := by rw [← Array.length_toList, hlist, List.length_map]
    have hval : ∀ j : Nat, j < xs.length → scr.slots[j]? = some (.int (xs.getD j 0)) := fun j hj => by
      rw [← Array.getElem?_toList, hlist]
      simp [hj]
    have hbl : b < s.heap.size := (Array.getElem?_eq_some_iff.mp hcb).1
    have hX : va_X b xs.length (fun j => xs.getD j 0) s s.heap := ⟨scr, hcb, hof, hkn, hsz, hval⟩
    have K : W p l e room_1 s m #[Value.ref b] below meth c s₁.heap [] 0 0 (lw_Z below #[Value.ref b] s) (entryFrame m ([Value.ref b] : List Value).toArray 4) := by
      rw [hh0]
      exact whole_start l hbd ⟨B.exec, B.bytes, B.returns, hml, hown, hts, hX, hbl, B.notSynchronized, hgv⟩
    obtain ⟨t, a1, o, b1, b2, b3⟩ := K s₁ rfl X₀
    exact ⟨t, o, a1, b1, b2, b3⟩
theorem lw_pre_spec {args : Array Value} {s : State} (h : (Jvm.Cond.and given_1 narrow_1).before args s = true) (hr : rest_1_c.before args s = true) : ∃ (b : Addr) (xs : List Int32), lw_P b xs args s := by
  have hs := flat_of_before _ h
  have hq := flat_of_before _ hr
  have hc : (Cond.count 1).before args s = true := hs _ (by decide +kernel)
  have harr : (Cond.arrayOf (.arg 0) .int).before args s = true := hs _ (by decide +kernel)
  have hle : (Cond.le (.length (.arg 0)) (.int 2049)).before args s = true := hs _ (by decide +kernel)
  have hlen : (Cond.isInt (.length (.arg 0))).before args s = true := hq _ (by decide +kernel)
  have hall : (Cond.all (.arg 0) (.isInt (.elem (.arg 0) (.index 0)))).before args s = true := hq _ (by decide +kernel)
  obtain ⟨b, xs, hb, hx⟩ := State.ints_of_pre rfl harr hlen hall
  have hsm : xs.length < 2 ^ 31 := hx.choose_spec.2.2.2
  have hev : (Term.length (.arg 0)).eval args s none [] s = some (.int xs.length.toInt32) := hx.length_eval hb
  have hv := Cond.le_ints hev (show (Term.int 2049).eval args s none [] s = some (.int 2049) from rfl)
  have hd : xs.length.toInt32 ≤ 2049 := by
    simpa [Cond.before, Cond.holds, hv] using hle
  have hN : xs.length ≤ 2049 := (Int32.ofNat_le_ofNat hsm (by decide)).mp (show Int32.ofNat xs.length ≤ Int32.ofNat 2049 from hd)
  exact ⟨b, xs, Cond.one_arg hc (show args[0]? = some (.ref b) from hb), hx, hN, h⟩
theorem lw_comes (l : Launch) : Comes l x (Jvm.Cond.code x code maxLocals ret :: tables_1) room_1 (fun tb e args s => Calls_1 tb e args s ∧ rest_1 tb e args s ∧ Pre_1 tb e args s)
    (fun _ _ args s o t => lw_Q args s o t) := by
  intro p e ha hc hk s m args below hf hfit hheap happ hpre
  obtain ⟨b, xs, hP⟩ := lw_pre_spec hpre.2.2 hpre.2.1
  obtain ⟨k, o, h1, h2, h3, hQ⟩ := lw_walk l b xs p e ha hc hk s m args below hf ((Spec.applies_iff_loose hf).mp happ).1 hP trivial
  exact ⟨k, o, h1, h2, h3, hQ⟩
theorem lw_frame {s t : State} {o : Outcome} {args : Array Value} (h : Framed s o t [] 13 731) :
    Framed s o t (fieldLocs frame_1_writes args s ++ arrayLocs frame_1_arrays args s ++ staticLocs frame_1_statics s) 13 731 := h
theorem lw_limb (L : Cond) (hL : ∀ (args : Array Value) (s t : State), L.after args s (.returned (some (.int 1))) t = true) :
    ArmFor flags0 classFile x code maxLocals ret World_1 tables_1 room_1 Calls_1 rest_1 Pre_1
      (fun tb e a s o t => postC L tb e a s o t ∧ Framed s o t (fieldLocs frame_1_writes a s ++ arrayLocs frame_1_arrays a s ++ staticLocs frame_1_statics s) 13 731) := by
  intro l _ _ _ p e ha hc hk s m args below hf hfit hheap happ hpre
  obtain ⟨k, o, h1, h2, h3, rfl, hF⟩ := lw_comes l p e ha hc hk s m args below hf hfit hheap happ hpre
  exact ⟨k, _, h1, h2, h3, hL args s _, lw_frame hF⟩
theorem i_vc : Claimed_1_1 ∧ Claimed_1_2 := ⟨lw_limb limb_1_1 (fun args s t => by simp [limb_1_1, Cond.after, Cond.holds, Cond.value]), lw_limb limb_1_2 (fun args s t => Cond.after_iff.mpr (by
  first | (rw [show limb_1_2 = Cond.eq .result (.int 1) from rfl, Cond.eq_ints (x := 1) (y := 1) rfl rfl]; simp; done) | (simp [limb_1_2, Cond.value, Term.eval]; done)))⟩
end
