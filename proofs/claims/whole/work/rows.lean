section
-- ===== PART A: goes FIRST, ahead of the names: the tables' words, and 'selects' of the private methods out of them =====
/-- a private method of a class that the tables say can be made, by its rows of tables_1 -/
def lw_okq (q : MethodName × Nat) : Prop := (q.1.cls ≠ "java/lang/invoke/MethodHandle" ∧ q.1.cls ≠ "java/lang/invoke/VarHandle") ∧ Cond.instantiable q.1.cls q.2 ∈ tables_1 ∧ Cond.privateMethod q.1 ∈ tables_1 ∧ Cond.instanceMethod q.1 ∈ tables_1
theorem lw_p0 : lw_okq (⟨"VersionRanges$Tape", "hasRoomFor", "(I)Z"⟩, 6) := ⟨⟨by decide +kernel, by decide +kernel⟩, List.mem_of_getElem? (i := 29) (by decide +kernel), List.mem_of_getElem? (i := 115) (by decide +kernel), List.mem_of_getElem? (i := 116) (by decide +kernel)⟩
theorem lw_p1 : lw_okq (⟨"VersionRanges$Tape", "addFour", "(I)V"⟩, 6) := ⟨⟨by decide +kernel, by decide +kernel⟩, List.mem_of_getElem? (i := 29) (by decide +kernel), List.mem_of_getElem? (i := 119) (by decide +kernel), List.mem_of_getElem? (i := 120) (by decide +kernel)⟩
theorem lw_p2 : lw_okq (⟨"VersionRanges", "addVersionOfTape", "()I"⟩, 5) := ⟨⟨by decide +kernel, by decide +kernel⟩, List.mem_of_getElem? (i := 21) (by decide +kernel), List.mem_of_getElem? (i := 131) (by decide +kernel), List.mem_of_getElem? (i := 132) (by decide +kernel)⟩
theorem lw_p3 : lw_okq (⟨"VersionRanges$Tape", "splitWords", "()I"⟩, 6) := ⟨⟨by decide +kernel, by decide +kernel⟩, List.mem_of_getElem? (i := 29) (by decide +kernel), List.mem_of_getElem? (i := 135) (by decide +kernel), List.mem_of_getElem? (i := 136) (by decide +kernel)⟩
theorem lw_p4 : lw_okq (⟨"VersionRanges$Tape", "enterWord", "(I)V"⟩, 6) := ⟨⟨by decide +kernel, by decide +kernel⟩, List.mem_of_getElem? (i := 29) (by decide +kernel), List.mem_of_getElem? (i := 139) (by decide +kernel), List.mem_of_getElem? (i := 140) (by decide +kernel)⟩
theorem lw_p5 : lw_okq (⟨"VersionRanges$Version", "readFrom", "(LVersionRanges$Tape;)Z"⟩, 2) := ⟨⟨by decide +kernel, by decide +kernel⟩, List.mem_of_getElem? (i := 60) (by decide +kernel), List.mem_of_getElem? (i := 143) (by decide +kernel), List.mem_of_getElem? (i := 144) (by decide +kernel)⟩
theorem lw_p6 : lw_okq (⟨"VersionRanges$Tape", "skip", "(C)Z"⟩, 6) := ⟨⟨by decide +kernel, by decide +kernel⟩, List.mem_of_getElem? (i := 29) (by decide +kernel), List.mem_of_getElem? (i := 147) (by decide +kernel), List.mem_of_getElem? (i := 148) (by decide +kernel)⟩
theorem lw_p7 : lw_okq (⟨"VersionRanges$Tape", "readNumber", "()I"⟩, 6) := ⟨⟨by decide +kernel, by decide +kernel⟩, List.mem_of_getElem? (i := 29) (by decide +kernel), List.mem_of_getElem? (i := 151) (by decide +kernel), List.mem_of_getElem? (i := 152) (by decide +kernel)⟩
theorem lw_p8 : lw_okq (⟨"VersionRanges$Tape", "numberSince", "(I)I"⟩, 6) := ⟨⟨by decide +kernel, by decide +kernel⟩, List.mem_of_getElem? (i := 29) (by decide +kernel), List.mem_of_getElem? (i := 158) (by decide +kernel), List.mem_of_getElem? (i := 159) (by decide +kernel)⟩
theorem lw_p9 : lw_okq (⟨"VersionRanges$Version", "dropPre", "()V"⟩, 2) := ⟨⟨by decide +kernel, by decide +kernel⟩, List.mem_of_getElem? (i := 60) (by decide +kernel), List.mem_of_getElem? (i := 162) (by decide +kernel), List.mem_of_getElem? (i := 163) (by decide +kernel)⟩
theorem lw_p10 : lw_okq (⟨"VersionRanges$Tape", "isAtStop", "()Z"⟩, 6) := ⟨⟨by decide +kernel, by decide +kernel⟩, List.mem_of_getElem? (i := 29) (by decide +kernel), List.mem_of_getElem? (i := 168) (by decide +kernel), List.mem_of_getElem? (i := 169) (by decide +kernel)⟩
theorem lw_p11 : lw_okq (⟨"VersionRanges$Version", "readPre", "(LVersionRanges$Tape;)Z"⟩, 2) := ⟨⟨by decide +kernel, by decide +kernel⟩, List.mem_of_getElem? (i := 60) (by decide +kernel), List.mem_of_getElem? (i := 172) (by decide +kernel), List.mem_of_getElem? (i := 173) (by decide +kernel)⟩
theorem lw_p12 : lw_okq (⟨"VersionRanges$Tape", "readMark", "()J"⟩, 6) := ⟨⟨by decide +kernel, by decide +kernel⟩, List.mem_of_getElem? (i := 29) (by decide +kernel), List.mem_of_getElem? (i := 176) (by decide +kernel), List.mem_of_getElem? (i := 177) (by decide +kernel)⟩
theorem lw_p13 : lw_okq (⟨"VersionRanges$Version", "copyFrom", "(LVersionRanges$Version;)V"⟩, 2) := ⟨⟨by decide +kernel, by decide +kernel⟩, List.mem_of_getElem? (i := 60) (by decide +kernel), List.mem_of_getElem? (i := 184) (by decide +kernel), List.mem_of_getElem? (i := 185) (by decide +kernel)⟩
theorem lw_p14 : lw_okq (⟨"VersionRanges", "isListed", "(I)Z"⟩, 5) := ⟨⟨by decide +kernel, by decide +kernel⟩, List.mem_of_getElem? (i := 21) (by decide +kernel), List.mem_of_getElem? (i := 195) (by decide +kernel), List.mem_of_getElem? (i := 196) (by decide +kernel)⟩
theorem lw_p15 : lw_okq (⟨"VersionRanges$Version", "orderTo", "(LVersionRanges$Version;)I"⟩, 2) := ⟨⟨by decide +kernel, by decide +kernel⟩, List.mem_of_getElem? (i := 60) (by decide +kernel), List.mem_of_getElem? (i := 199) (by decide +kernel), List.mem_of_getElem? (i := 200) (by decide +kernel)⟩
def lw_privs_1 : List (MethodName × Nat) := [(⟨"VersionRanges$Tape", "hasRoomFor", "(I)Z"⟩, 6), (⟨"VersionRanges$Tape", "addFour", "(I)V"⟩, 6), (⟨"VersionRanges", "addVersionOfTape", "()I"⟩, 5), (⟨"VersionRanges$Tape", "splitWords", "()I"⟩, 6), (⟨"VersionRanges$Tape", "enterWord", "(I)V"⟩, 6), (⟨"VersionRanges$Version", "readFrom", "(LVersionRanges$Tape;)Z"⟩, 2), (⟨"VersionRanges$Tape", "skip", "(C)Z"⟩, 6), (⟨"VersionRanges$Tape", "readNumber", "()I"⟩, 6), (⟨"VersionRanges$Tape", "numberSince", "(I)I"⟩, 6), (⟨"VersionRanges$Version", "dropPre", "()V"⟩, 2), (⟨"VersionRanges$Tape", "isAtStop", "()Z"⟩, 6), (⟨"VersionRanges$Version", "readPre", "(LVersionRanges$Tape;)Z"⟩, 2), (⟨"VersionRanges$Tape", "readMark", "()J"⟩, 6), (⟨"VersionRanges$Version", "copyFrom", "(LVersionRanges$Version;)V"⟩, 2), (⟨"VersionRanges", "isListed", "(I)Z"⟩, 5), (⟨"VersionRanges$Version", "orderTo", "(LVersionRanges$Version;)I"⟩, 2)]
theorem lw_r1 : ∀ q ∈ lw_privs_1, lw_okq q := List.forall_mem_cons.mpr ⟨lw_p0, List.forall_mem_cons.mpr ⟨lw_p1, List.forall_mem_cons.mpr ⟨lw_p2, List.forall_mem_cons.mpr ⟨lw_p3, List.forall_mem_cons.mpr ⟨lw_p4, List.forall_mem_cons.mpr ⟨lw_p5, List.forall_mem_cons.mpr ⟨lw_p6, List.forall_mem_cons.mpr ⟨lw_p7, List.forall_mem_cons.mpr ⟨lw_p8, List.forall_mem_cons.mpr ⟨lw_p9, List.forall_mem_cons.mpr ⟨lw_p10, List.forall_mem_cons.mpr ⟨lw_p11, List.forall_mem_cons.mpr ⟨lw_p12, List.forall_mem_cons.mpr ⟨lw_p13, List.forall_mem_cons.mpr ⟨lw_p14, List.forall_mem_cons.mpr ⟨lw_p15, fun _ h => absurd h List.not_mem_nil⟩⟩⟩⟩⟩⟩⟩⟩⟩⟩⟩⟩⟩⟩⟩⟩
theorem lw_p16 : lw_okq (⟨"VersionRanges$Version", "number", "(I)I"⟩, 2) := ⟨⟨by decide +kernel, by decide +kernel⟩, List.mem_of_getElem? (i := 60) (by decide +kernel), List.mem_of_getElem? (i := 207) (by decide +kernel), List.mem_of_getElem? (i := 208) (by decide +kernel)⟩
theorem lw_p17 : lw_okq (⟨"VersionRanges", "bitsInRangeOfTape", "()I"⟩, 5) := ⟨⟨by decide +kernel, by decide +kernel⟩, List.mem_of_getElem? (i := 21) (by decide +kernel), List.mem_of_getElem? (i := 219) (by decide +kernel), List.mem_of_getElem? (i := 220) (by decide +kernel)⟩
theorem lw_p18 : lw_okq (⟨"VersionRanges", "allBits", "()I"⟩, 5) := ⟨⟨by decide +kernel, by decide +kernel⟩, List.mem_of_getElem? (i := 21) (by decide +kernel), List.mem_of_getElem? (i := 223) (by decide +kernel), List.mem_of_getElem? (i := 224) (by decide +kernel)⟩
theorem lw_p19 : lw_okq (⟨"VersionRanges$Tape", "isAtOrWord", "()Z"⟩, 6) := ⟨⟨by decide +kernel, by decide +kernel⟩, List.mem_of_getElem? (i := 29) (by decide +kernel), List.mem_of_getElem? (i := 227) (by decide +kernel), List.mem_of_getElem? (i := 228) (by decide +kernel)⟩
theorem lw_p20 : lw_okq (⟨"VersionRanges$RangeTest", "readFrom", "(LVersionRanges$Tape;)Z"⟩, 3) := ⟨⟨by decide +kernel, by decide +kernel⟩, List.mem_of_getElem? (i := 75) (by decide +kernel), List.mem_of_getElem? (i := 231) (by decide +kernel), List.mem_of_getElem? (i := 232) (by decide +kernel)⟩
theorem lw_p21 : lw_okq (⟨"VersionRanges$RangeTest", "setCeiling", "()V"⟩, 3) := ⟨⟨by decide +kernel, by decide +kernel⟩, List.mem_of_getElem? (i := 75) (by decide +kernel), List.mem_of_getElem? (i := 255) (by decide +kernel), List.mem_of_getElem? (i := 256) (by decide +kernel)⟩
theorem lw_p22 : lw_okq (⟨"VersionRanges$Version", "setNumbers", "(JJJ)V"⟩, 2) := ⟨⟨by decide +kernel, by decide +kernel⟩, List.mem_of_getElem? (i := 60) (by decide +kernel), List.mem_of_getElem? (i := 260) (by decide +kernel), List.mem_of_getElem? (i := 261) (by decide +kernel)⟩
theorem lw_p23 : lw_okq (⟨"VersionRanges", "bitsOfTest", "()I"⟩, 5) := ⟨⟨by decide +kernel, by decide +kernel⟩, List.mem_of_getElem? (i := 21) (by decide +kernel), List.mem_of_getElem? (i := 264) (by decide +kernel), List.mem_of_getElem? (i := 265) (by decide +kernel)⟩
theorem lw_p24 : lw_okq (⟨"VersionRanges$RangeTest", "holdsFor", "(LVersionRanges$Version;)Z"⟩, 3) := ⟨⟨by decide +kernel, by decide +kernel⟩, List.mem_of_getElem? (i := 75) (by decide +kernel), List.mem_of_getElem? (i := 268) (by decide +kernel), List.mem_of_getElem? (i := 269) (by decide +kernel)⟩
theorem lw_p25 : lw_okq (⟨"VersionRanges$Sign", "hasOrder", "(I)Z"⟩, 6) := ⟨⟨by decide +kernel, by decide +kernel⟩, List.mem_of_getElem? (i := 275) (by decide +kernel), List.mem_of_getElem? (i := 273) (by decide +kernel), List.mem_of_getElem? (i := 274) (by decide +kernel)⟩
theorem lw_p26 : lw_okq (⟨"VersionRangesModel", "put", "(I)V"⟩, 7) := ⟨⟨by decide +kernel, by decide +kernel⟩, List.mem_of_getElem? (i := 282) (by decide +kernel), List.mem_of_getElem? (i := 319) (by decide +kernel), List.mem_of_getElem? (i := 320) (by decide +kernel)⟩
theorem lw_p27 : lw_okq (⟨"VersionRangesModel", "readWords", "()V"⟩, 7) := ⟨⟨by decide +kernel, by decide +kernel⟩, List.mem_of_getElem? (i := 282) (by decide +kernel), List.mem_of_getElem? (i := 331) (by decide +kernel), List.mem_of_getElem? (i := 332) (by decide +kernel)⟩
theorem lw_p28 : lw_okq (⟨"VersionRangesModel", "is", "(I)Z"⟩, 7) := ⟨⟨by decide +kernel, by decide +kernel⟩, List.mem_of_getElem? (i := 282) (by decide +kernel), List.mem_of_getElem? (i := 530) (by decide +kernel), List.mem_of_getElem? (i := 531) (by decide +kernel)⟩
theorem lw_p29 : lw_okq (⟨"VersionRangesModel", "range", "()LVersionRangesModel$Range;"⟩, 7) := ⟨⟨by decide +kernel, by decide +kernel⟩, List.mem_of_getElem? (i := 282) (by decide +kernel), List.mem_of_getElem? (i := 552) (by decide +kernel), List.mem_of_getElem? (i := 553) (by decide +kernel)⟩
theorem lw_p30 : lw_okq (⟨"VersionRangesModel", "ends", "()Z"⟩, 7) := ⟨⟨by decide +kernel, by decide +kernel⟩, List.mem_of_getElem? (i := 282) (by decide +kernel), List.mem_of_getElem? (i := 579) (by decide +kernel), List.mem_of_getElem? (i := 580) (by decide +kernel)⟩
theorem lw_p31 : lw_okq (⟨"VersionRangesModel", "here", "()Ljava/lang/String;"⟩, 7) := ⟨⟨by decide +kernel, by decide +kernel⟩, List.mem_of_getElem? (i := 282) (by decide +kernel), List.mem_of_getElem? (i := 583) (by decide +kernel), List.mem_of_getElem? (i := 584) (by decide +kernel)⟩
def lw_privs_2 : List (MethodName × Nat) := [(⟨"VersionRanges$Version", "number", "(I)I"⟩, 2), (⟨"VersionRanges", "bitsInRangeOfTape", "()I"⟩, 5), (⟨"VersionRanges", "allBits", "()I"⟩, 5), (⟨"VersionRanges$Tape", "isAtOrWord", "()Z"⟩, 6), (⟨"VersionRanges$RangeTest", "readFrom", "(LVersionRanges$Tape;)Z"⟩, 3), (⟨"VersionRanges$RangeTest", "setCeiling", "()V"⟩, 3), (⟨"VersionRanges$Version", "setNumbers", "(JJJ)V"⟩, 2), (⟨"VersionRanges", "bitsOfTest", "()I"⟩, 5), (⟨"VersionRanges$RangeTest", "holdsFor", "(LVersionRanges$Version;)Z"⟩, 3), (⟨"VersionRanges$Sign", "hasOrder", "(I)Z"⟩, 6), (⟨"VersionRangesModel", "put", "(I)V"⟩, 7), (⟨"VersionRangesModel", "readWords", "()V"⟩, 7), (⟨"VersionRangesModel", "is", "(I)Z"⟩, 7), (⟨"VersionRangesModel", "range", "()LVersionRangesModel$Range;"⟩, 7), (⟨"VersionRangesModel", "ends", "()Z"⟩, 7), (⟨"VersionRangesModel", "here", "()Ljava/lang/String;"⟩, 7)]
theorem lw_r2 : ∀ q ∈ lw_privs_2, lw_okq q := List.forall_mem_cons.mpr ⟨lw_p16, List.forall_mem_cons.mpr ⟨lw_p17, List.forall_mem_cons.mpr ⟨lw_p18, List.forall_mem_cons.mpr ⟨lw_p19, List.forall_mem_cons.mpr ⟨lw_p20, List.forall_mem_cons.mpr ⟨lw_p21, List.forall_mem_cons.mpr ⟨lw_p22, List.forall_mem_cons.mpr ⟨lw_p23, List.forall_mem_cons.mpr ⟨lw_p24, List.forall_mem_cons.mpr ⟨lw_p25, List.forall_mem_cons.mpr ⟨lw_p26, List.forall_mem_cons.mpr ⟨lw_p27, List.forall_mem_cons.mpr ⟨lw_p28, List.forall_mem_cons.mpr ⟨lw_p29, List.forall_mem_cons.mpr ⟨lw_p30, List.forall_mem_cons.mpr ⟨lw_p31, fun _ h => absurd h List.not_mem_nil⟩⟩⟩⟩⟩⟩⟩⟩⟩⟩⟩⟩⟩⟩⟩⟩
def lw_privs : List (MethodName × Nat) := lw_privs_1 ++ (lw_privs_2)
def lw_tbl : List Cond := k2_sels lw_privs ++ tables_1
theorem lw_privs_ok : ∀ q ∈ lw_privs, lw_okq q := by
  show ∀ q ∈ lw_privs_1 ++ (lw_privs_2), lw_okq q
  exact List.forall_mem_append.mpr ⟨lw_r1, lw_r2⟩
end
section
def RVR : String := "VersionRanges"
def RTP : String := "VersionRanges$Tape"
def RVE : String := "VersionRanges$Version"
def RSG : String := "VersionRanges$Sign"
def RRT : String := "VersionRanges$RangeTest"
def RMD : String := "VersionRangesModel"
def RMV : String := "VersionRangesModel$Version"
def RMR : String := "VersionRangesModel$Range"
def RLW : String := "VersionRangesLaw"
def ROB : String := "java/lang/Object"
def RMA : String := "java/lang/Math"
def RST : String := "java/lang/String"
def RSL : String := "java/lang/StringLatin1"
def RSU : String := "java/lang/StringUTF16"
def RAR : String := "java/util/Arrays"
def RAS : String := "jdk/internal/util/ArraysSupport"
def RPC : String := "jdk/internal/util/Preconditions"
def RSY : String := "java/lang/System"
def RIN : String := "java/lang/Integer"
def RLO : String := "java/lang/Long"
def REN : String := "java/lang/Enum"
def TRT : u_T := fun k => match k with
  | 0 => ("VersionRanges$RangeTest", "bound", "LVersionRanges$Version;", true)
  | 1 => ("VersionRanges$RangeTest", "ceiling", "LVersionRanges$Version;", true)
  | _ => ("VersionRanges$RangeTest", "sign", "LVersionRanges$Sign;", false)
def tyRT : Nat → FieldType := fun k => match k with
  | 0 => .object "VersionRanges$Version"
  | 1 => .object "VersionRanges$Version"
  | _ => .object "VersionRanges$Sign"
theorem nmokRT : ∀ a, a < 3 → ∀ b, b < 3 → a ≠ b → (TRT a).2.1 ≠ (TRT b).2.1 := by decide +kernel
theorem tyokRT : ∀ k, k < 3 → parseFieldDescriptor (TRT k).2.2.1 = some (tyRT k) := by decide +kernel
def TTP : u_T := fun k => match k with
  | 0 => ("VersionRanges$Tape", "bytes", "[B", true)
  | 1 => ("VersionRanges$Tape", "starts", "[I", true)
  | 2 => ("VersionRanges$Tape", "stops", "[I", true)
  | 3 => ("VersionRanges$Tape", "length", "I", false)
  | 4 => ("VersionRanges$Tape", "at", "I", false)
  | _ => ("VersionRanges$Tape", "stop", "I", false)
def tyTP : Nat → FieldType := fun k => match k with
  | 0 => .array .byte
  | 1 => .array .int
  | 2 => .array .int
  | 3 => .int
  | 4 => .int
  | _ => .int
theorem nmokTP : ∀ a, a < 6 → ∀ b, b < 6 → a ≠ b → (TTP a).2.1 ≠ (TTP b).2.1 := by decide +kernel
theorem tyokTP : ∀ k, k < 6 → parseFieldDescriptor (TTP k).2.2.1 = some (tyTP k) := by decide +kernel
def TVE : u_T := fun k => match k with
  | 0 => ("VersionRanges$Version", "row", "[J", true)
  | _ => ("VersionRanges$Version", "preBytes", "I", false)
def tyVE : Nat → FieldType := fun k => match k with
  | 0 => .array .long
  | _ => .int
theorem nmokVE : ∀ a, a < 2 → ∀ b, b < 2 → a ≠ b → (TVE a).2.1 ≠ (TVE b).2.1 := by decide +kernel
theorem tyokVE : ∀ k, k < 2 → parseFieldDescriptor (TVE k).2.2.1 = some (tyVE k) := by decide +kernel
def TVR : u_T := fun k => match k with
  | 0 => ("VersionRanges", "tape", "LVersionRanges$Tape;", true)
  | 1 => ("VersionRanges", "list", "[LVersionRanges$Version;", true)
  | 2 => ("VersionRanges", "candidate", "LVersionRanges$Version;", true)
  | 3 => ("VersionRanges", "test", "LVersionRanges$RangeTest;", true)
  | _ => ("VersionRanges", "count", "I", false)
def tyVR : Nat → FieldType := fun k => match k with
  | 0 => .object "VersionRanges$Tape"
  | 1 => .array (.object "VersionRanges$Version")
  | 2 => .object "VersionRanges$Version"
  | 3 => .object "VersionRanges$RangeTest"
  | _ => .int
theorem nmokVR : ∀ a, a < 5 → ∀ b, b < 5 → a ≠ b → (TVR a).2.1 ≠ (TVR b).2.1 := by decide +kernel
theorem tyokVR : ∀ k, k < 5 → parseFieldDescriptor (TVR k).2.2.1 = some (tyVR k) := by decide +kernel
def TMD : u_T := fun k => match k with
  | 0 => ("VersionRangesModel", "tape", "[C", true)
  | 1 => ("VersionRangesModel", "tapeLength", "I", false)
  | 2 => ("VersionRangesModel", "word", "[Ljava/lang/String;", true)
  | 3 => ("VersionRangesModel", "words", "I", false)
  | 4 => ("VersionRangesModel", "at", "I", false)
  | 5 => ("VersionRangesModel", "list", "[LVersionRangesModel$Version;", true)
  | _ => ("VersionRangesModel", "count", "I", false)
def tyMD : Nat → FieldType := fun k => match k with
  | 0 => .array .char
  | 1 => .int
  | 2 => .array (.object "java/lang/String")
  | 3 => .int
  | 4 => .int
  | 5 => .array (.object "VersionRangesModel$Version")
  | _ => .int
theorem nmokMD : ∀ a, a < 7 → ∀ b, b < 7 → a ≠ b → (TMD a).2.1 ≠ (TMD b).2.1 := by decide +kernel
theorem tyokMD : ∀ k, k < 7 → parseFieldDescriptor (TMD k).2.2.1 = some (tyMD k) := by decide +kernel
def TMV : u_T := fun k => match k with
  | 0 => ("VersionRangesModel$Version", "number", "[I", true)
  | 1 => ("VersionRangesModel$Version", "mark", "[Ljava/lang/String;", true)
  | _ => ("VersionRangesModel$Version", "marks", "I", false)
def tyMV : Nat → FieldType := fun k => match k with
  | 0 => .array .int
  | 1 => .array (.object "java/lang/String")
  | _ => .int
theorem nmokMV : ∀ a, a < 3 → ∀ b, b < 3 → a ≠ b → (TMV a).2.1 ≠ (TMV b).2.1 := by decide +kernel
theorem tyokMV : ∀ k, k < 3 → parseFieldDescriptor (TMV k).2.2.1 = some (tyMV k) := by decide +kernel
def TMR : u_T := fun k => match k with
  | 0 => ("VersionRangesModel$Range", "sign", "[I", true)
  | 1 => ("VersionRangesModel$Range", "version", "[LVersionRangesModel$Version;", true)
  | 2 => ("VersionRangesModel$Range", "tests", "[I", true)
  | _ => ("VersionRangesModel$Range", "choices", "I", false)
def tyMR : Nat → FieldType := fun k => match k with
  | 0 => .array .int
  | 1 => .array (.object "VersionRangesModel$Version")
  | 2 => .array .int
  | _ => .int
theorem nmokMR : ∀ a, a < 4 → ∀ b, b < 4 → a ≠ b → (TMR a).2.1 ≠ (TMR b).2.1 := by decide +kernel
theorem tyokMR : ∀ k, k < 4 → parseFieldDescriptor (TMR k).2.2.1 = some (tyMR k) := by decide +kernel
def TST : u_T := fun k => match k with
  | 0 => ("java/lang/String", "value", "[B", true)
  | 1 => ("java/lang/String", "coder", "B", true)
  | 2 => ("java/lang/String", "hash", "I", false)
  | _ => ("java/lang/String", "hashIsZero", "Z", false)
def tyST : Nat → FieldType := fun k => match k with
  | 0 => .array .byte
  | 1 => .byte
  | 2 => .int
  | _ => .boolean
theorem nmokST : ∀ a, a < 4 → ∀ b, b < 4 → a ≠ b → (TST a).2.1 ≠ (TST b).2.1 := by decide +kernel
theorem tyokST : ∀ k, k < 4 → parseFieldDescriptor (TST k).2.2.1 = some (tyST k) := by decide +kernel
abbrev cVR_init : ByteArray := prog_1_method_1_code
def yVR_init : MethodName := ⟨RVR, "<init>", "()V"⟩
abbrev cVR_feed : ByteArray := prog_1_method_2_code
def yVR_feed : MethodName := ⟨RVR, "feed", "(IIIII)I"⟩
abbrev cVR_end : ByteArray := prog_1_method_3_code
def yVR_end : MethodName := ⟨RVR, "end", "(I)I"⟩
abbrev cVR_take : ByteArray := prog_1_method_4_code
def yVR_take : MethodName := ⟨RVR, "take", "()I"⟩
abbrev cVR_compare : ByteArray := prog_1_method_5_code
def yVR_compare : MethodName := ⟨RVR, "compare", "(II)I"⟩
abbrev cVR_part : ByteArray := prog_1_method_6_code
def yVR_part : MethodName := ⟨RVR, "part", "(II)I"⟩
abbrev cVR_rank : ByteArray := prog_1_method_7_code
def yVR_rank : MethodName := ⟨RVR, "rank", "(I)I"⟩
abbrev cVR_match : ByteArray := prog_1_method_8_code
def yVR_match : MethodName := ⟨RVR, "match", "()I"⟩
abbrev cVR_clear : ByteArray := prog_1_method_9_code
def yVR_clear : MethodName := ⟨RVR, "clear", "()I"⟩
abbrev cVR_isListed : ByteArray := prog_1_method_10_code
def yVR_isListed : MethodName := ⟨RVR, "isListed", "(I)Z"⟩
abbrev cVR_addVersionOfTape : ByteArray := prog_1_method_11_code
def yVR_addVersionOfTape : MethodName := ⟨RVR, "addVersionOfTape", "()I"⟩
abbrev cVR_bitsInRangeOfTape : ByteArray := prog_1_method_12_code
def yVR_bitsInRangeOfTape : MethodName := ⟨RVR, "bitsInRangeOfTape", "()I"⟩
abbrev cVR_allBits : ByteArray := prog_1_method_13_code
def yVR_allBits : MethodName := ⟨RVR, "allBits", "()I"⟩
abbrev cVR_bitsOfTest : ByteArray := prog_1_method_14_code
def yVR_bitsOfTest : MethodName := ⟨RVR, "bitsOfTest", "()I"⟩
abbrev cMD_init : ByteArray := prog_7_method_1_code
def yMD_init : MethodName := ⟨RMD, "<init>", "()V"⟩
abbrev cMD_put : ByteArray := prog_7_method_2_code
def yMD_put : MethodName := ⟨RMD, "put", "(I)V"⟩
abbrev cMD_feed : ByteArray := prog_7_method_3_code
def yMD_feed : MethodName := ⟨RMD, "feed", "(IIIII)I"⟩
abbrev cMD_end : ByteArray := prog_7_method_4_code
def yMD_end : MethodName := ⟨RMD, "end", "(I)I"⟩
abbrev cMD_readWords : ByteArray := prog_7_method_5_code
def yMD_readWords : MethodName := ⟨RMD, "readWords", "()V"⟩
abbrev cMD_here : ByteArray := prog_7_method_6_code
def yMD_here : MethodName := ⟨RMD, "here", "()Ljava/lang/String;"⟩
abbrev cMD_digit : ByteArray := prog_7_method_7_code
def yMD_digit : MethodName := ⟨RMD, "digit", "(C)Z"⟩
abbrev cMD_letter : ByteArray := prog_7_method_8_code
def yMD_letter : MethodName := ⟨RMD, "letter", "(C)Z"⟩
abbrev cMD_digits : ByteArray := prog_7_method_9_code
def yMD_digits : MethodName := ⟨RMD, "digits", "(Ljava/lang/String;)Z"⟩
abbrev cMD_number : ByteArray := prog_7_method_10_code
def yMD_number : MethodName := ⟨RMD, "number", "(Ljava/lang/String;I)I"⟩
abbrev cMD_version : ByteArray := prog_7_method_11_code
def yMD_version : MethodName := ⟨RMD, "version", "(Ljava/lang/String;I)LVersionRangesModel$Version;"⟩
abbrev cMD_mark : ByteArray := prog_7_method_12_code
def yMD_mark : MethodName := ⟨RMD, "mark", "(Ljava/lang/String;Ljava/lang/String;)I"⟩
abbrev cMD_order : ByteArray := prog_7_method_13_code
def yMD_order : MethodName := ⟨RMD, "order", "(LVersionRangesModel$Version;LVersionRangesModel$Version;)I"⟩
abbrev cMD_signLength : ByteArray := prog_7_method_14_code
def yMD_signLength : MethodName := ⟨RMD, "signLength", "(Ljava/lang/String;)I"⟩
abbrev cMD_sign : ByteArray := prog_7_method_15_code
def yMD_sign : MethodName := ⟨RMD, "sign", "(Ljava/lang/String;)I"⟩
abbrev cMD_ends : ByteArray := prog_7_method_16_code
def yMD_ends : MethodName := ⟨RMD, "ends", "()Z"⟩
abbrev cMD_range : ByteArray := prog_7_method_17_code
def yMD_range : MethodName := ⟨RMD, "range", "()LVersionRangesModel$Range;"⟩
abbrev cMD_below : ByteArray := prog_7_method_18_code
def yMD_below : MethodName := ⟨RMD, "below", "(LVersionRangesModel$Version;III)Z"⟩
abbrev cMD_test : ByteArray := prog_7_method_19_code
def yMD_test : MethodName := ⟨RMD, "test", "(ILVersionRangesModel$Version;LVersionRangesModel$Version;)Z"⟩
abbrev cMD_in : ByteArray := prog_7_method_20_code
def yMD_in : MethodName := ⟨RMD, "in", "(LVersionRangesModel$Version;LVersionRangesModel$Range;)Z"⟩
abbrev cMD_take : ByteArray := prog_7_method_21_code
def yMD_take : MethodName := ⟨RMD, "take", "()I"⟩
abbrev cMD_is : ByteArray := prog_7_method_22_code
def yMD_is : MethodName := ⟨RMD, "is", "(I)Z"⟩
abbrev cMD_compare : ByteArray := prog_7_method_23_code
def yMD_compare : MethodName := ⟨RMD, "compare", "(II)I"⟩
abbrev cMD_part : ByteArray := prog_7_method_24_code
def yMD_part : MethodName := ⟨RMD, "part", "(II)I"⟩
abbrev cMD_rank : ByteArray := prog_7_method_25_code
def yMD_rank : MethodName := ⟨RMD, "rank", "(I)I"⟩
abbrev cMD_match : ByteArray := prog_7_method_26_code
def yMD_match : MethodName := ⟨RMD, "match", "()I"⟩
abbrev cMD_clear : ByteArray := prog_7_method_27_code
def yMD_clear : MethodName := ⟨RMD, "clear", "()I"⟩
abbrev cRT_init : ByteArray := prog_2_method_1_code
def yRT_init : MethodName := ⟨RRT, "<init>", "()V"⟩
abbrev cRT_readFrom : ByteArray := prog_2_method_2_code
def yRT_readFrom : MethodName := ⟨RRT, "readFrom", "(LVersionRanges$Tape;)Z"⟩
abbrev cRT_readSign : ByteArray := prog_2_method_3_code
def yRT_readSign : MethodName := ⟨RRT, "readSign", "(LVersionRanges$Tape;)LVersionRanges$Sign;"⟩
abbrev cRT_setCeiling : ByteArray := prog_2_method_4_code
def yRT_setCeiling : MethodName := ⟨RRT, "setCeiling", "()V"⟩
abbrev cRT_holdsFor : ByteArray := prog_2_method_5_code
def yRT_holdsFor : MethodName := ⟨RRT, "holdsFor", "(LVersionRanges$Version;)Z"⟩
abbrev cSG_hasOrder : ByteArray := prog_3_method_4_code
def ySG_hasOrder : MethodName := ⟨RSG, "hasOrder", "(I)Z"⟩
abbrev cTP_init : ByteArray := prog_4_method_1_code
def yTP_init : MethodName := ⟨RTP, "<init>", "()V"⟩
abbrev cTP_hasRoomFor : ByteArray := prog_4_method_2_code
def yTP_hasRoomFor : MethodName := ⟨RTP, "hasRoomFor", "(I)Z"⟩
abbrev cTP_addFour : ByteArray := prog_4_method_3_code
def yTP_addFour : MethodName := ⟨RTP, "addFour", "(I)V"⟩
abbrev cTP_splitWords : ByteArray := prog_4_method_4_code
def yTP_splitWords : MethodName := ⟨RTP, "splitWords", "()I"⟩
abbrev cTP_enterWord : ByteArray := prog_4_method_5_code
def yTP_enterWord : MethodName := ⟨RTP, "enterWord", "(I)V"⟩
abbrev cTP_isAtStop : ByteArray := prog_4_method_6_code
def yTP_isAtStop : MethodName := ⟨RTP, "isAtStop", "()Z"⟩
abbrev cTP_isAtOrWord : ByteArray := prog_4_method_7_code
def yTP_isAtOrWord : MethodName := ⟨RTP, "isAtOrWord", "()Z"⟩
abbrev cTP_skip : ByteArray := prog_4_method_8_code
def yTP_skip : MethodName := ⟨RTP, "skip", "(C)Z"⟩
abbrev cTP_readNumber : ByteArray := prog_4_method_9_code
def yTP_readNumber : MethodName := ⟨RTP, "readNumber", "()I"⟩
abbrev cTP_numberSince : ByteArray := prog_4_method_10_code
def yTP_numberSince : MethodName := ⟨RTP, "numberSince", "(I)I"⟩
abbrev cTP_readMark : ByteArray := prog_4_method_11_code
def yTP_readMark : MethodName := ⟨RTP, "readMark", "()J"⟩
abbrev cTP_isLetterOrHyphen : ByteArray := prog_4_method_12_code
def yTP_isLetterOrHyphen : MethodName := ⟨RTP, "isLetterOrHyphen", "(I)Z"⟩
abbrev cTP_isDigit : ByteArray := prog_4_method_13_code
def yTP_isDigit : MethodName := ⟨RTP, "isDigit", "(I)Z"⟩
abbrev cVE_init : ByteArray := prog_5_method_1_code
def yVE_init : MethodName := ⟨RVE, "<init>", "()V"⟩
abbrev cVE_number : ByteArray := prog_5_method_2_code
def yVE_number : MethodName := ⟨RVE, "number", "(I)I"⟩
abbrev cVE_setNumbers : ByteArray := prog_5_method_3_code
def yVE_setNumbers : MethodName := ⟨RVE, "setNumbers", "(JJJ)V"⟩
abbrev cVE_dropPre : ByteArray := prog_5_method_4_code
def yVE_dropPre : MethodName := ⟨RVE, "dropPre", "()V"⟩
abbrev cVE_copyFrom : ByteArray := prog_5_method_5_code
def yVE_copyFrom : MethodName := ⟨RVE, "copyFrom", "(LVersionRanges$Version;)V"⟩
abbrev cVE_orderTo : ByteArray := prog_5_method_6_code
def yVE_orderTo : MethodName := ⟨RVE, "orderTo", "(LVersionRanges$Version;)I"⟩
abbrev cVE_readFrom : ByteArray := prog_5_method_7_code
def yVE_readFrom : MethodName := ⟨RVE, "readFrom", "(LVersionRanges$Tape;)Z"⟩
abbrev cVE_readPre : ByteArray := prog_5_method_8_code
def yVE_readPre : MethodName := ⟨RVE, "readPre", "(LVersionRanges$Tape;)Z"⟩
abbrev cMR_init : ByteArray := prog_8_method_1_code
def yMR_init : MethodName := ⟨RMR, "<init>", "()V"⟩
abbrev cMV_init : ByteArray := prog_9_method_1_code
def yMV_init : MethodName := ⟨RMV, "<init>", "()V"⟩
abbrev cLW_law : ByteArray := code
def yLW_law : MethodName := ⟨RLW, "law", "([I)Z"⟩
abbrev cOB_init : ByteArray := object_method_1_code
def yOB_init : MethodName := ⟨ROB, "<init>", "()V"⟩
abbrev cST_init : ByteArray := prog_15_method_4_code
def yST_init : MethodName := ⟨RST, "<init>", "([CII)V"⟩
abbrev cST_rangeCheck : ByteArray := prog_15_method_5_code
def yST_rangeCheck : MethodName := ⟨RST, "rangeCheck", "([CII)Ljava/lang/Void;"⟩
abbrev cST_checkBoundsOffCount : ByteArray := prog_15_method_157_code
def yST_checkBoundsOffCount : MethodName := ⟨RST, "checkBoundsOffCount", "(III)I"⟩
abbrev cPC_checkFromIndexSize : ByteArray := prog_21_method_13_code
def yPC_checkFromIndexSize : MethodName := ⟨RPC, "checkFromIndexSize", "(IIILjava/util/function/BiFunction;)I"⟩
abbrev cST_init2 : ByteArray := prog_15_method_149_code
def yST_init2 : MethodName := ⟨RST, "<init>", "([CIILjava/lang/Void;)V"⟩
abbrev cSU_compress : ByteArray := prog_17_method_16_code
def ySU_compress : MethodName := ⟨RSU, "compress", "([CII)[B"⟩
abbrev cSU_compress2 : ByteArray := prog_17_method_21_code
def ySU_compress2 : MethodName := ⟨RSU, "compress", "([CI[BII)I"⟩
abbrev cSU_toBytes : ByteArray := prog_17_method_14_code
def ySU_toBytes : MethodName := ⟨RSU, "toBytes", "([CII)[B"⟩
abbrev cSU_newBytesFor : ByteArray := prog_17_method_2_code
def ySU_newBytesFor : MethodName := ⟨RSU, "newBytesFor", "(I)[B"⟩
abbrev cSU_newBytesLength : ByteArray := prog_17_method_3_code
def ySU_newBytesLength : MethodName := ⟨RSU, "newBytesLength", "(I)I"⟩
abbrev cSU_putChar : ByteArray := prog_17_method_4_code
def ySU_putChar : MethodName := ⟨RSU, "putChar", "([BII)V"⟩
abbrev cSU_length : ByteArray := prog_17_method_6_code
def ySU_length : MethodName := ⟨RSU, "length", "([B)I"⟩
abbrev cSU_getChar : ByteArray := prog_17_method_5_code
def ySU_getChar : MethodName := ⟨RSU, "getChar", "([BI)C"⟩
abbrev cSU_compress3 : ByteArray := prog_17_method_22_code
def ySU_compress3 : MethodName := ⟨RSU, "compress", "([BI[BII)I"⟩
abbrev cSU_checkBoundsOffCount : ByteArray := prog_17_method_94_code
def ySU_checkBoundsOffCount : MethodName := ⟨RSU, "checkBoundsOffCount", "(II[B)V"⟩
abbrev cSU_coderFromArrayLen : ByteArray := prog_17_method_15_code
def ySU_coderFromArrayLen : MethodName := ⟨RSU, "coderFromArrayLen", "([BI)B"⟩
abbrev cST_length : ByteArray := prog_15_method_54_code
def yST_length : MethodName := ⟨RST, "length", "()I"⟩
abbrev cST_coder : ByteArray := prog_15_method_152_code
def yST_coder : MethodName := ⟨RST, "coder", "()B"⟩
abbrev cST_charAt : ByteArray := prog_15_method_56_code
def yST_charAt : MethodName := ⟨RST, "charAt", "(I)C"⟩
abbrev cST_isLatin1 : ByteArray := prog_15_method_154_code
def yST_isLatin1 : MethodName := ⟨RST, "isLatin1", "()Z"⟩
abbrev cSL_charAt : ByteArray := prog_16_method_2_code
def ySL_charAt : MethodName := ⟨RSL, "charAt", "([BI)C"⟩
abbrev cST_checkIndex : ByteArray := prog_15_method_155_code
def yST_checkIndex : MethodName := ⟨RST, "checkIndex", "(II)V"⟩
abbrev cPC_checkIndex : ByteArray := prog_21_method_11_code
def yPC_checkIndex : MethodName := ⟨RPC, "checkIndex", "(IILjava/util/function/BiFunction;)I"⟩
abbrev cSU_charAt : ByteArray := prog_17_method_83_code
def ySU_charAt : MethodName := ⟨RSU, "charAt", "([BI)C"⟩
abbrev cSU_checkIndex : ByteArray := prog_17_method_91_code
def ySU_checkIndex : MethodName := ⟨RSU, "checkIndex", "(I[B)V"⟩
abbrev cST_substring : ByteArray := prog_15_method_92_code
def yST_substring : MethodName := ⟨RST, "substring", "(II)Ljava/lang/String;"⟩
abbrev cST_checkBoundsBeginEnd : ByteArray := prog_15_method_158_code
def yST_checkBoundsBeginEnd : MethodName := ⟨RST, "checkBoundsBeginEnd", "(III)V"⟩
abbrev cPC_checkFromToIndex : ByteArray := prog_21_method_12_code
def yPC_checkFromToIndex : MethodName := ⟨RPC, "checkFromToIndex", "(IIILjava/util/function/BiFunction;)I"⟩
abbrev cSL_newString : ByteArray := prog_16_method_47_code
def ySL_newString : MethodName := ⟨RSL, "newString", "([BII)Ljava/lang/String;"⟩
abbrev cAR_copyOfRange : ByteArray := prog_19_method_132_code
def yAR_copyOfRange : MethodName := ⟨RAR, "copyOfRange", "([BII)[B"⟩
abbrev cAR_copyOfRangeByte : ByteArray := prog_19_method_133_code
def yAR_copyOfRangeByte : MethodName := ⟨RAR, "copyOfRangeByte", "([BII)[B"⟩
abbrev cAR_checkLength : ByteArray := prog_19_method_131_code
def yAR_checkLength : MethodName := ⟨RAR, "checkLength", "(II)V"⟩
abbrev cMA_min : ByteArray := prog_14_method_69_code
def yMA_min : MethodName := ⟨RMA, "min", "(II)I"⟩
abbrev cST_init3 : ByteArray := prog_15_method_151_code
def yST_init3 : MethodName := ⟨RST, "<init>", "([BB)V"⟩
abbrev cSU_newString : ByteArray := prog_17_method_69_code
def ySU_newString : MethodName := ⟨RSU, "newString", "([BII)Ljava/lang/String;"⟩
abbrev cSU_compress4 : ByteArray := prog_17_method_17_code
def ySU_compress4 : MethodName := ⟨RSU, "compress", "([BII)[B"⟩
abbrev cST_equals : ByteArray := prog_15_method_66_code
def yST_equals : MethodName := ⟨RST, "equals", "(Ljava/lang/Object;)Z"⟩
abbrev cSL_equals : ByteArray := prog_16_method_13_code
def ySL_equals : MethodName := ⟨RSL, "equals", "([B[B)Z"⟩
abbrev cST_startsWith : ByteArray := prog_15_method_76_code
def yST_startsWith : MethodName := ⟨RST, "startsWith", "(Ljava/lang/String;)Z"⟩
abbrev cST_startsWith2 : ByteArray := prog_15_method_75_code
def yST_startsWith2 : MethodName := ⟨RST, "startsWith", "(Ljava/lang/String;I)Z"⟩
abbrev cAS_mismatch : ByteArray := prog_20_method_14_code
def yAS_mismatch : MethodName := ⟨RAS, "mismatch", "([BI[BII)I"⟩
abbrev cAS_vectorizedMismatch : ByteArray := prog_20_method_3_code
def yAS_vectorizedMismatch : MethodName := ⟨RAS, "vectorizedMismatch", "(Ljava/lang/Object;JLjava/lang/Object;JII)I"⟩
abbrev cLO_numberOfLeadingZeros : ByteArray := prog_13_method_48_code
def yLO_numberOfLeadingZeros : MethodName := ⟨RLO, "numberOfLeadingZeros", "(J)I"⟩
abbrev cIN_numberOfLeadingZeros : ByteArray := prog_12_method_47_code
def yIN_numberOfLeadingZeros : MethodName := ⟨RIN, "numberOfLeadingZeros", "(I)I"⟩
abbrev cLO_numberOfTrailingZeros : ByteArray := prog_13_method_49_code
def yLO_numberOfTrailingZeros : MethodName := ⟨RLO, "numberOfTrailingZeros", "(J)I"⟩
abbrev cIN_numberOfTrailingZeros : ByteArray := prog_12_method_48_code
def yIN_numberOfTrailingZeros : MethodName := ⟨RIN, "numberOfTrailingZeros", "(I)I"⟩
end
section
def Wd : List Cond := lw_tbl.filter goodWord
theorem Wd_good : ∀ w ∈ Wd, (w.onTables && w.keeps) = true ∨ ∃ ty, w = .arrayClass ty := fun w hw => good_of_word (List.mem_filter.mp hw).2
theorem Wd_in : ∀ w ∈ Wd, w ∈ lw_tbl := fun w hw => (List.mem_filter.mp hw).1
theorem wd_t {w : Cond} (h : w ∈ tables_1) (hg : goodWord w = true) : w ∈ Wd := List.mem_filter.mpr ⟨List.mem_append_right _ h, hg⟩
theorem wd_p {w : Cond} (h : w ∈ k2_sels lw_privs) (hg : goodWord w = true) : w ∈ Wd := List.mem_filter.mpr ⟨List.mem_append_left _ h, hg⟩
def isNestW : Cond → Bool
  | .fieldLinkNest _ _ _ _ _ _ => true
  | .methodLinkNest _ _ _ _ => true
  | _ => false
def kNest : List Cond := tables_1.filter isNestW
theorem wd_n {w : Cond} (h : w ∈ tables_1) (hg : isNestW w = true) : w ∈ kNest := List.mem_filter.mpr ⟨h, hg⟩
theorem w_0 : Cond.initialized RLW ∈ Wd := wd_t (List.mem_append_left _ (List.mem_of_getElem? (i := 0) (by decide +kernel))) (by decide +kernel)
theorem w_1 : Cond.initialized RVR ∈ Wd := wd_t (List.mem_append_left _ (List.mem_of_getElem? (i := 1) (by decide +kernel))) (by decide +kernel)
theorem w_2 : Cond.initialized RTP ∈ Wd := wd_t (List.mem_append_left _ (List.mem_of_getElem? (i := 2) (by decide +kernel))) (by decide +kernel)
theorem w_3 : Cond.initialized RVE ∈ Wd := wd_t (List.mem_append_left _ (List.mem_of_getElem? (i := 3) (by decide +kernel))) (by decide +kernel)
theorem w_4 : Cond.initialized RRT ∈ Wd := wd_t (List.mem_append_left _ (List.mem_of_getElem? (i := 4) (by decide +kernel))) (by decide +kernel)
theorem w_5 : Cond.initialized REN ∈ Wd := wd_t (List.mem_append_left _ (List.mem_of_getElem? (i := 5) (by decide +kernel))) (by decide +kernel)
theorem w_6 : Cond.initialized RSG ∈ Wd := wd_t (List.mem_append_left _ (List.mem_of_getElem? (i := 6) (by decide +kernel))) (by decide +kernel)
theorem w_7 : Cond.initialized RMD ∈ Wd := wd_t (List.mem_append_left _ (List.mem_of_getElem? (i := 7) (by decide +kernel))) (by decide +kernel)
theorem w_8 : Cond.initialized RSY ∈ Wd := wd_t (List.mem_append_left _ (List.mem_of_getElem? (i := 8) (by decide +kernel))) (by decide +kernel)
theorem w_9 : Cond.initialized RST ∈ Wd := wd_t (List.mem_append_left _ (List.mem_of_getElem? (i := 9) (by decide +kernel))) (by decide +kernel)
theorem w_10 : Cond.initialized RPC ∈ Wd := wd_t (List.mem_append_left _ (List.mem_of_getElem? (i := 10) (by decide +kernel))) (by decide +kernel)
theorem w_11 : Cond.initialized RSU ∈ Wd := wd_t (List.mem_append_left _ (List.mem_of_getElem? (i := 11) (by decide +kernel))) (by decide +kernel)
theorem w_12 : Cond.initialized RMV ∈ Wd := wd_t (List.mem_append_left _ (List.mem_of_getElem? (i := 12) (by decide +kernel))) (by decide +kernel)
theorem w_13 : Cond.initialized RSL ∈ Wd := wd_t (List.mem_append_left _ (List.mem_of_getElem? (i := 13) (by decide +kernel))) (by decide +kernel)
theorem w_14 : Cond.initialized RAR ∈ Wd := wd_t (List.mem_append_left _ (List.mem_of_getElem? (i := 14) (by decide +kernel))) (by decide +kernel)
theorem w_15 : Cond.initialized RMA ∈ Wd := wd_t (List.mem_append_left _ (List.mem_of_getElem? (i := 15) (by decide +kernel))) (by decide +kernel)
theorem w_16 : Cond.initialized RMR ∈ Wd := wd_t (List.mem_append_left _ (List.mem_of_getElem? (i := 16) (by decide +kernel))) (by decide +kernel)
theorem w_17 : Cond.initialized RAS ∈ Wd := wd_t (List.mem_append_left _ (List.mem_of_getElem? (i := 17) (by decide +kernel))) (by decide +kernel)
theorem w_18 : Cond.initialized RLO ∈ Wd := wd_t (List.mem_append_left _ (List.mem_of_getElem? (i := 18) (by decide +kernel))) (by decide +kernel)
theorem w_19 : Cond.initialized RIN ∈ Wd := wd_t (List.mem_append_left _ (List.mem_of_getElem? (i := 19) (by decide +kernel))) (by decide +kernel)
theorem w_20 : Cond.classLink RLW 7 "VersionRanges" ∈ Wd := wd_t (List.mem_append_left _ (List.mem_of_getElem? (i := 20) (by decide +kernel))) (by decide +kernel)
theorem w_21 : Cond.instantiable RVR 5 ∈ Wd := wd_t (List.mem_append_left _ (List.mem_of_getElem? (i := 21) (by decide +kernel))) (by decide +kernel)
theorem w_22 : Cond.methodLink RLW 9 yVR_init ∈ Wd := wd_t (List.mem_append_left _ (List.mem_of_getElem? (i := 22) (by decide +kernel))) (by decide +kernel)
theorem w_23 : Cond.instanceMethod yVR_init ∈ Wd := wd_t (List.mem_append_left _ (List.mem_of_getElem? (i := 23) (by decide +kernel))) (by decide +kernel)
theorem w_24 : Cond.code yVR_init prog_1_method_1_code 2 none ∈ Wd := wd_t (List.mem_append_left _ (List.mem_of_getElem? (i := 24) (by decide +kernel))) (by decide +kernel)
theorem w_25 : Cond.methodLink RVR 1 yOB_init ∈ Wd := wd_t (List.mem_append_left _ (List.mem_of_getElem? (i := 25) (by decide +kernel))) (by decide +kernel)
theorem w_26 : Cond.instanceMethod yOB_init ∈ Wd := wd_t (List.mem_append_left _ (List.mem_of_getElem? (i := 26) (by decide +kernel))) (by decide +kernel)
theorem w_27 : Cond.code yOB_init object_method_1_code 1 none ∈ Wd := wd_t (List.mem_append_left _ (List.mem_of_getElem? (i := 27) (by decide +kernel))) (by decide +kernel)
theorem w_28 : Cond.classLink RVR 7 "VersionRanges$Tape" ∈ Wd := wd_t (List.mem_append_left _ (List.mem_of_getElem? (i := 28) (by decide +kernel))) (by decide +kernel)
theorem w_29 : Cond.instantiable RTP 6 ∈ Wd := wd_t (List.mem_append_left _ (List.mem_of_getElem? (i := 29) (by decide +kernel))) (by decide +kernel)
theorem n_30 : Cond.methodLinkNest RVR 9 yTP_init "VersionRanges" ∈ kNest := wd_n (List.mem_append_left _ (List.mem_of_getElem? (i := 30) (by decide +kernel))) (by decide +kernel)
theorem w_31 : Cond.instanceMethod yTP_init ∈ Wd := wd_t (List.mem_append_left _ (List.mem_of_getElem? (i := 31) (by decide +kernel))) (by decide +kernel)
theorem w_32 : Cond.code yTP_init prog_4_method_1_code 1 none ∈ Wd := wd_t (List.mem_append_left _ (List.mem_of_getElem? (i := 32) (by decide +kernel))) (by decide +kernel)
theorem w_33 : Cond.methodLink RTP 1 yOB_init ∈ Wd := wd_t (List.mem_append_left _ (List.mem_of_getElem? (i := 33) (by decide +kernel))) (by decide +kernel)
theorem w_34 : Cond.fieldLink RTP 9 "VersionRanges$Tape" "bytes" "[B" ∈ Wd := wd_t (List.mem_append_left _ (List.mem_of_getElem? (i := 34) (by decide +kernel))) (by decide +kernel)
theorem w_35 : Cond.fieldLink RTP 13 "VersionRanges$Tape" "starts" "[I" ∈ Wd := wd_t (List.mem_append_left _ (List.mem_of_getElem? (i := 35) (by decide +kernel))) (by decide +kernel)
theorem w_36 : Cond.fieldLink RTP 17 "VersionRanges$Tape" "stops" "[I" ∈ Wd := wd_t (List.mem_append_left _ (List.mem_of_getElem? (i := 36) (by decide +kernel))) (by decide +kernel)
theorem w_37 : Cond.fieldLink RTP 20 "VersionRanges$Tape" "length" "I" ∈ Wd := wd_t (List.mem_append_left _ (List.mem_of_getElem? (i := 37) (by decide +kernel))) (by decide +kernel)
theorem n_38 : Cond.fieldLinkNest RVR 46 "VersionRanges$Tape" "length" "I" "VersionRanges" ∈ kNest := wd_n (List.mem_append_left _ (List.mem_of_getElem? (i := 38) (by decide +kernel))) (by decide +kernel)
theorem w_39 : Cond.fieldLink RTP 24 "VersionRanges$Tape" "at" "I" ∈ Wd := wd_t (List.mem_append_left _ (List.mem_of_getElem? (i := 39) (by decide +kernel))) (by decide +kernel)
theorem n_40 : Cond.fieldLinkNest RVE 51 "VersionRanges$Tape" "at" "I" "VersionRanges" ∈ kNest := wd_n (List.mem_append_left _ (List.mem_of_getElem? (i := 40) (by decide +kernel))) (by decide +kernel)
theorem w_41 : Cond.fieldLink RTP 27 "VersionRanges$Tape" "stop" "I" ∈ Wd := wd_t (List.mem_append_left _ (List.mem_of_getElem? (i := 41) (by decide +kernel))) (by decide +kernel)
theorem n_42 : Cond.fieldLinkNest RVE 48 "VersionRanges$Tape" "stop" "I" "VersionRanges" ∈ kNest := wd_n (List.mem_append_left _ (List.mem_of_getElem? (i := 42) (by decide +kernel))) (by decide +kernel)
theorem w_43 : Cond.laysFinal RTP "VersionRanges$Tape" "bytes" "[B" ∈ Wd := wd_t (List.mem_append_left _ (List.mem_of_getElem? (i := 43) (by decide +kernel))) (by decide +kernel)
theorem w_45 : Cond.laysFinal RTP "VersionRanges$Tape" "starts" "[I" ∈ Wd := wd_t (List.mem_append_left _ (List.mem_of_getElem? (i := 45) (by decide +kernel))) (by decide +kernel)
theorem w_47 : Cond.laysFinal RTP "VersionRanges$Tape" "stops" "[I" ∈ Wd := wd_t (List.mem_append_left _ (List.mem_of_getElem? (i := 47) (by decide +kernel))) (by decide +kernel)
theorem w_49 : Cond.lays RTP "VersionRanges$Tape" "length" "I" ∈ Wd := wd_t (List.mem_append_left _ (List.mem_of_getElem? (i := 49) (by decide +kernel))) (by decide +kernel)
theorem w_51 : Cond.lays RTP "VersionRanges$Tape" "at" "I" ∈ Wd := wd_t (List.mem_append_left _ (List.mem_of_getElem? (i := 51) (by decide +kernel))) (by decide +kernel)
theorem w_53 : Cond.lays RTP "VersionRanges$Tape" "stop" "I" ∈ Wd := wd_t (List.mem_append_left _ (List.mem_of_getElem? (i := 53) (by decide +kernel))) (by decide +kernel)
theorem w_56 : Cond.arrayClass .byte ∈ Wd := wd_t (List.mem_append_left _ (List.mem_of_getElem? (i := 56) (by decide +kernel))) (by decide +kernel)
theorem w_57 : Cond.arrayClass .int ∈ Wd := wd_t (List.mem_append_left _ (List.mem_of_getElem? (i := 57) (by decide +kernel))) (by decide +kernel)
theorem w_58 : Cond.classLink RVR 16 "VersionRanges$Version" ∈ Wd := wd_t (List.mem_append_left _ (List.mem_of_getElem? (i := 58) (by decide +kernel))) (by decide +kernel)
theorem a_59 : Cond.arrayOver (.object "VersionRanges$Version") ∈ tables_1 := List.mem_append_left _ (List.mem_of_getElem? (i := 59) (by decide +kernel))
theorem w_60 : Cond.instantiable RVE 2 ∈ Wd := wd_t (List.mem_append_left _ (List.mem_of_getElem? (i := 60) (by decide +kernel))) (by decide +kernel)
theorem n_61 : Cond.methodLinkNest RVR 22 yVE_init "VersionRanges" ∈ kNest := wd_n (List.mem_append_left _ (List.mem_of_getElem? (i := 61) (by decide +kernel))) (by decide +kernel)
theorem w_62 : Cond.instanceMethod yVE_init ∈ Wd := wd_t (List.mem_append_left _ (List.mem_of_getElem? (i := 62) (by decide +kernel))) (by decide +kernel)
theorem w_63 : Cond.code yVE_init prog_5_method_1_code 1 none ∈ Wd := wd_t (List.mem_append_left _ (List.mem_of_getElem? (i := 63) (by decide +kernel))) (by decide +kernel)
theorem w_64 : Cond.methodLink RVE 1 yOB_init ∈ Wd := wd_t (List.mem_append_left _ (List.mem_of_getElem? (i := 64) (by decide +kernel))) (by decide +kernel)
theorem w_65 : Cond.fieldLink RVE 9 "VersionRanges$Version" "row" "[J" ∈ Wd := wd_t (List.mem_append_left _ (List.mem_of_getElem? (i := 65) (by decide +kernel))) (by decide +kernel)
theorem w_66 : Cond.fieldLink RVE 13 "VersionRanges$Version" "preBytes" "I" ∈ Wd := wd_t (List.mem_append_left _ (List.mem_of_getElem? (i := 66) (by decide +kernel))) (by decide +kernel)
theorem n_67 : Cond.fieldLinkNest RVR 60 "VersionRanges$Version" "preBytes" "I" "VersionRanges" ∈ kNest := wd_n (List.mem_append_left _ (List.mem_of_getElem? (i := 67) (by decide +kernel))) (by decide +kernel)
theorem w_68 : Cond.laysFinal RVE "VersionRanges$Version" "row" "[J" ∈ Wd := wd_t (List.mem_append_left _ (List.mem_of_getElem? (i := 68) (by decide +kernel))) (by decide +kernel)
theorem w_70 : Cond.lays RVE "VersionRanges$Version" "preBytes" "I" ∈ Wd := wd_t (List.mem_append_left _ (List.mem_of_getElem? (i := 70) (by decide +kernel))) (by decide +kernel)
theorem w_73 : Cond.arrayClass .long ∈ Wd := wd_t (List.mem_append_left _ (List.mem_of_getElem? (i := 73) (by decide +kernel))) (by decide +kernel)
theorem w_74 : Cond.classLink RVR 27 "VersionRanges$RangeTest" ∈ Wd := wd_t (List.mem_append_left _ (List.mem_of_getElem? (i := 74) (by decide +kernel))) (by decide +kernel)
theorem w_75 : Cond.instantiable RRT 3 ∈ Wd := wd_t (List.mem_append_left _ (List.mem_of_getElem? (i := 75) (by decide +kernel))) (by decide +kernel)
theorem n_76 : Cond.methodLinkNest RVR 29 yRT_init "VersionRanges" ∈ kNest := wd_n (List.mem_append_left _ (List.mem_of_getElem? (i := 76) (by decide +kernel))) (by decide +kernel)
theorem w_77 : Cond.instanceMethod yRT_init ∈ Wd := wd_t (List.mem_append_left _ (List.mem_of_getElem? (i := 77) (by decide +kernel))) (by decide +kernel)
theorem w_78 : Cond.code yRT_init prog_2_method_1_code 1 none ∈ Wd := wd_t (List.mem_append_left _ (List.mem_of_getElem? (i := 78) (by decide +kernel))) (by decide +kernel)
theorem w_79 : Cond.methodLink RRT 1 yOB_init ∈ Wd := wd_t (List.mem_append_left _ (List.mem_of_getElem? (i := 79) (by decide +kernel))) (by decide +kernel)
theorem w_80 : Cond.classLink RRT 7 "VersionRanges$Version" ∈ Wd := wd_t (List.mem_append_left _ (List.mem_of_getElem? (i := 80) (by decide +kernel))) (by decide +kernel)
theorem n_81 : Cond.methodLinkNest RRT 9 yVE_init "VersionRanges" ∈ kNest := wd_n (List.mem_append_left _ (List.mem_of_getElem? (i := 81) (by decide +kernel))) (by decide +kernel)
theorem w_82 : Cond.fieldLink RRT 19 "VersionRanges$Sign" "ALL" "LVersionRanges$Sign;" ∈ Wd := wd_t (List.mem_append_left _ (List.mem_of_getElem? (i := 82) (by decide +kernel))) (by decide +kernel)
theorem a_83 : Cond.laysStatic "VersionRanges$Sign" "ALL" "LVersionRanges$Sign;" ∈ tables_1 := List.mem_append_left _ (List.mem_of_getElem? (i := 83) (by decide +kernel))
theorem w_84 : Cond.fieldLink RRT 10 "VersionRanges$RangeTest" "bound" "LVersionRanges$Version;" ∈ Wd := wd_t (List.mem_append_left _ (List.mem_of_getElem? (i := 84) (by decide +kernel))) (by decide +kernel)
theorem w_85 : Cond.fieldLink RRT 16 "VersionRanges$RangeTest" "ceiling" "LVersionRanges$Version;" ∈ Wd := wd_t (List.mem_append_left _ (List.mem_of_getElem? (i := 85) (by decide +kernel))) (by decide +kernel)
theorem w_86 : Cond.fieldLink RRT 25 "VersionRanges$RangeTest" "sign" "LVersionRanges$Sign;" ∈ Wd := wd_t (List.mem_append_left _ (List.mem_of_getElem? (i := 86) (by decide +kernel))) (by decide +kernel)
theorem w_87 : Cond.laysFinal RRT "VersionRanges$RangeTest" "bound" "LVersionRanges$Version;" ∈ Wd := wd_t (List.mem_append_left _ (List.mem_of_getElem? (i := 87) (by decide +kernel))) (by decide +kernel)
theorem w_89 : Cond.laysFinal RRT "VersionRanges$RangeTest" "ceiling" "LVersionRanges$Version;" ∈ Wd := wd_t (List.mem_append_left _ (List.mem_of_getElem? (i := 89) (by decide +kernel))) (by decide +kernel)
theorem w_91 : Cond.lays RRT "VersionRanges$RangeTest" "sign" "LVersionRanges$Sign;" ∈ Wd := wd_t (List.mem_append_left _ (List.mem_of_getElem? (i := 91) (by decide +kernel))) (by decide +kernel)
theorem w_94 : Cond.fieldLink RVR 10 "VersionRanges" "tape" "LVersionRanges$Tape;" ∈ Wd := wd_t (List.mem_append_left _ (List.mem_of_getElem? (i := 94) (by decide +kernel))) (by decide +kernel)
theorem w_95 : Cond.fieldLink RVR 18 "VersionRanges" "list" "[LVersionRanges$Version;" ∈ Wd := wd_t (List.mem_append_left _ (List.mem_of_getElem? (i := 95) (by decide +kernel))) (by decide +kernel)
theorem w_96 : Cond.fieldLink RVR 23 "VersionRanges" "candidate" "LVersionRanges$Version;" ∈ Wd := wd_t (List.mem_append_left _ (List.mem_of_getElem? (i := 96) (by decide +kernel))) (by decide +kernel)
theorem w_97 : Cond.fieldLink RVR 30 "VersionRanges" "test" "LVersionRanges$RangeTest;" ∈ Wd := wd_t (List.mem_append_left _ (List.mem_of_getElem? (i := 97) (by decide +kernel))) (by decide +kernel)
theorem w_98 : Cond.fieldLink RVR 34 "VersionRanges" "count" "I" ∈ Wd := wd_t (List.mem_append_left _ (List.mem_of_getElem? (i := 98) (by decide +kernel))) (by decide +kernel)
theorem w_99 : Cond.laysFinal RVR "VersionRanges" "tape" "LVersionRanges$Tape;" ∈ Wd := wd_t (List.mem_append_left _ (List.mem_of_getElem? (i := 99) (by decide +kernel))) (by decide +kernel)
theorem w_101 : Cond.laysFinal RVR "VersionRanges" "list" "[LVersionRanges$Version;" ∈ Wd := wd_t (List.mem_append_left _ (List.mem_of_getElem? (i := 101) (by decide +kernel))) (by decide +kernel)
theorem w_103 : Cond.laysFinal RVR "VersionRanges" "candidate" "LVersionRanges$Version;" ∈ Wd := wd_t (List.mem_append_left _ (List.mem_of_getElem? (i := 103) (by decide +kernel))) (by decide +kernel)
theorem w_105 : Cond.laysFinal RVR "VersionRanges" "test" "LVersionRanges$RangeTest;" ∈ Wd := wd_t (List.mem_append_left _ (List.mem_of_getElem? (i := 105) (by decide +kernel))) (by decide +kernel)
theorem w_107 : Cond.lays RVR "VersionRanges" "count" "I" ∈ Wd := wd_t (List.mem_append_left _ (List.mem_of_getElem? (i := 107) (by decide +kernel))) (by decide +kernel)
theorem w_110 : Cond.methodLink RLW 13 yVR_feed ∈ Wd := wd_t (List.mem_append_left _ (List.mem_of_getElem? (i := 110) (by decide +kernel))) (by decide +kernel)
theorem w_111 : Cond.instanceMethod yVR_feed ∈ Wd := wd_t (List.mem_append_left _ (List.mem_of_getElem? (i := 111) (by decide +kernel))) (by decide +kernel)
theorem w_112 : Cond.selects RVR yVR_feed yVR_feed ∈ Wd := wd_t (List.mem_append_left _ (List.mem_of_getElem? (i := 112) (by decide +kernel))) (by decide +kernel)
theorem w_113 : Cond.code yVR_feed prog_1_method_2_code 6 (some .int) ∈ Wd := wd_t (List.mem_append_left _ (List.mem_of_getElem? (i := 113) (by decide +kernel))) (by decide +kernel)
theorem n_114 : Cond.methodLinkNest RVR 38 yTP_hasRoomFor "VersionRanges" ∈ kNest := wd_n (List.mem_append_left _ (List.mem_of_getElem? (i := 114) (by decide +kernel))) (by decide +kernel)
theorem w_116 : Cond.instanceMethod yTP_hasRoomFor ∈ Wd := wd_t (List.mem_append_left _ (List.mem_of_getElem? (i := 116) (by decide +kernel))) (by decide +kernel)
theorem w_117 : Cond.code yTP_hasRoomFor prog_4_method_2_code 2 (some .boolean) ∈ Wd := wd_t (List.mem_append_left _ (List.mem_of_getElem? (i := 117) (by decide +kernel))) (by decide +kernel)
theorem n_118 : Cond.methodLinkNest RVR 42 yTP_addFour "VersionRanges" ∈ kNest := wd_n (List.mem_append_left _ (List.mem_of_getElem? (i := 118) (by decide +kernel))) (by decide +kernel)
theorem w_120 : Cond.instanceMethod yTP_addFour ∈ Wd := wd_t (List.mem_append_left _ (List.mem_of_getElem? (i := 120) (by decide +kernel))) (by decide +kernel)
theorem w_121 : Cond.code yTP_addFour prog_4_method_3_code 3 none ∈ Wd := wd_t (List.mem_append_left _ (List.mem_of_getElem? (i := 121) (by decide +kernel))) (by decide +kernel)
theorem w_122 : Cond.methodLink RLW 18 yVR_end ∈ Wd := wd_t (List.mem_append_left _ (List.mem_of_getElem? (i := 122) (by decide +kernel))) (by decide +kernel)
theorem w_123 : Cond.instanceMethod yVR_end ∈ Wd := wd_t (List.mem_append_left _ (List.mem_of_getElem? (i := 123) (by decide +kernel))) (by decide +kernel)
theorem w_124 : Cond.selects RVR yVR_end yVR_end ∈ Wd := wd_t (List.mem_append_left _ (List.mem_of_getElem? (i := 124) (by decide +kernel))) (by decide +kernel)
theorem w_125 : Cond.code yVR_end prog_1_method_3_code 2 (some .int) ∈ Wd := wd_t (List.mem_append_left _ (List.mem_of_getElem? (i := 125) (by decide +kernel))) (by decide +kernel)
theorem w_126 : Cond.methodLink RLW 23 yVR_take ∈ Wd := wd_t (List.mem_append_left _ (List.mem_of_getElem? (i := 126) (by decide +kernel))) (by decide +kernel)
theorem w_127 : Cond.instanceMethod yVR_take ∈ Wd := wd_t (List.mem_append_left _ (List.mem_of_getElem? (i := 127) (by decide +kernel))) (by decide +kernel)
theorem w_128 : Cond.selects RVR yVR_take yVR_take ∈ Wd := wd_t (List.mem_append_left _ (List.mem_of_getElem? (i := 128) (by decide +kernel))) (by decide +kernel)
theorem w_129 : Cond.code yVR_take prog_1_method_4_code 2 (some .int) ∈ Wd := wd_t (List.mem_append_left _ (List.mem_of_getElem? (i := 129) (by decide +kernel))) (by decide +kernel)
theorem w_130 : Cond.methodLink RVR 49 yVR_addVersionOfTape ∈ Wd := wd_t (List.mem_append_left _ (List.mem_of_getElem? (i := 130) (by decide +kernel))) (by decide +kernel)
theorem w_132 : Cond.instanceMethod yVR_addVersionOfTape ∈ Wd := wd_t (List.mem_append_left _ (List.mem_of_getElem? (i := 132) (by decide +kernel))) (by decide +kernel)
theorem w_133 : Cond.code yVR_addVersionOfTape prog_1_method_11_code 1 (some .int) ∈ Wd := wd_t (List.mem_append_left _ (List.mem_of_getElem? (i := 133) (by decide +kernel))) (by decide +kernel)
theorem n_134 : Cond.methodLinkNest RVR 70 yTP_splitWords "VersionRanges" ∈ kNest := wd_n (List.mem_append_left _ (List.mem_of_getElem? (i := 134) (by decide +kernel))) (by decide +kernel)
theorem w_136 : Cond.instanceMethod yTP_splitWords ∈ Wd := wd_t (List.mem_append_left _ (List.mem_of_getElem? (i := 136) (by decide +kernel))) (by decide +kernel)
theorem w_137 : Cond.code yTP_splitWords prog_4_method_4_code 3 (some .int) ∈ Wd := wd_t (List.mem_append_left _ (List.mem_of_getElem? (i := 137) (by decide +kernel))) (by decide +kernel)
theorem n_138 : Cond.methodLinkNest RVR 73 yTP_enterWord "VersionRanges" ∈ kNest := wd_n (List.mem_append_left _ (List.mem_of_getElem? (i := 138) (by decide +kernel))) (by decide +kernel)
theorem w_140 : Cond.instanceMethod yTP_enterWord ∈ Wd := wd_t (List.mem_append_left _ (List.mem_of_getElem? (i := 140) (by decide +kernel))) (by decide +kernel)
theorem w_141 : Cond.code yTP_enterWord prog_4_method_5_code 2 none ∈ Wd := wd_t (List.mem_append_left _ (List.mem_of_getElem? (i := 141) (by decide +kernel))) (by decide +kernel)
theorem n_142 : Cond.methodLinkNest RVR 76 yVE_readFrom "VersionRanges" ∈ kNest := wd_n (List.mem_append_left _ (List.mem_of_getElem? (i := 142) (by decide +kernel))) (by decide +kernel)
theorem w_144 : Cond.instanceMethod yVE_readFrom ∈ Wd := wd_t (List.mem_append_left _ (List.mem_of_getElem? (i := 144) (by decide +kernel))) (by decide +kernel)
theorem w_145 : Cond.code yVE_readFrom prog_5_method_7_code 3 (some .boolean) ∈ Wd := wd_t (List.mem_append_left _ (List.mem_of_getElem? (i := 145) (by decide +kernel))) (by decide +kernel)
theorem n_146 : Cond.methodLinkNest RVE 30 yTP_skip "VersionRanges" ∈ kNest := wd_n (List.mem_append_left _ (List.mem_of_getElem? (i := 146) (by decide +kernel))) (by decide +kernel)
theorem w_148 : Cond.instanceMethod yTP_skip ∈ Wd := wd_t (List.mem_append_left _ (List.mem_of_getElem? (i := 148) (by decide +kernel))) (by decide +kernel)
theorem w_149 : Cond.code yTP_skip prog_4_method_8_code 2 (some .boolean) ∈ Wd := wd_t (List.mem_append_left _ (List.mem_of_getElem? (i := 149) (by decide +kernel))) (by decide +kernel)
theorem n_150 : Cond.methodLinkNest RVE 36 yTP_readNumber "VersionRanges" ∈ kNest := wd_n (List.mem_append_left _ (List.mem_of_getElem? (i := 150) (by decide +kernel))) (by decide +kernel)
theorem w_152 : Cond.instanceMethod yTP_readNumber ∈ Wd := wd_t (List.mem_append_left _ (List.mem_of_getElem? (i := 152) (by decide +kernel))) (by decide +kernel)
theorem w_153 : Cond.code yTP_readNumber prog_4_method_9_code 2 (some .int) ∈ Wd := wd_t (List.mem_append_left _ (List.mem_of_getElem? (i := 153) (by decide +kernel))) (by decide +kernel)
theorem w_154 : Cond.methodLink RTP 30 yTP_isDigit ∈ Wd := wd_t (List.mem_append_left _ (List.mem_of_getElem? (i := 154) (by decide +kernel))) (by decide +kernel)
theorem w_155 : Cond.static yTP_isDigit ∈ Wd := wd_t (List.mem_append_left _ (List.mem_of_getElem? (i := 155) (by decide +kernel))) (by decide +kernel)
theorem w_156 : Cond.code yTP_isDigit prog_4_method_13_code 1 (some .boolean) ∈ Wd := wd_t (List.mem_append_left _ (List.mem_of_getElem? (i := 156) (by decide +kernel))) (by decide +kernel)
theorem w_157 : Cond.methodLink RTP 34 yTP_numberSince ∈ Wd := wd_t (List.mem_append_left _ (List.mem_of_getElem? (i := 157) (by decide +kernel))) (by decide +kernel)
theorem w_159 : Cond.instanceMethod yTP_numberSince ∈ Wd := wd_t (List.mem_append_left _ (List.mem_of_getElem? (i := 159) (by decide +kernel))) (by decide +kernel)
theorem w_160 : Cond.code yTP_numberSince prog_4_method_10_code 5 (some .int) ∈ Wd := wd_t (List.mem_append_left _ (List.mem_of_getElem? (i := 160) (by decide +kernel))) (by decide +kernel)
theorem w_161 : Cond.methodLink RVE 17 yVE_dropPre ∈ Wd := wd_t (List.mem_append_left _ (List.mem_of_getElem? (i := 161) (by decide +kernel))) (by decide +kernel)
theorem w_163 : Cond.instanceMethod yVE_dropPre ∈ Wd := wd_t (List.mem_append_left _ (List.mem_of_getElem? (i := 163) (by decide +kernel))) (by decide +kernel)
theorem w_164 : Cond.code yVE_dropPre prog_5_method_4_code 2 none ∈ Wd := wd_t (List.mem_append_left _ (List.mem_of_getElem? (i := 164) (by decide +kernel))) (by decide +kernel)
theorem w_165 : Cond.constantLong RVE 20 9223372036854775807 ∈ Wd := wd_t (List.mem_append_left _ (List.mem_of_getElem? (i := 165) (by decide +kernel))) (by decide +kernel)
theorem w_166 : Cond.constantLong RVE 22 (-1) ∈ Wd := wd_t (List.mem_append_left _ (List.mem_of_getElem? (i := 166) (by decide +kernel))) (by decide +kernel)
theorem n_167 : Cond.methodLinkNest RVE 40 yTP_isAtStop "VersionRanges" ∈ kNest := wd_n (List.mem_append_left _ (List.mem_of_getElem? (i := 167) (by decide +kernel))) (by decide +kernel)
theorem w_169 : Cond.instanceMethod yTP_isAtStop ∈ Wd := wd_t (List.mem_append_left _ (List.mem_of_getElem? (i := 169) (by decide +kernel))) (by decide +kernel)
theorem w_170 : Cond.code yTP_isAtStop prog_4_method_6_code 1 (some .boolean) ∈ Wd := wd_t (List.mem_append_left _ (List.mem_of_getElem? (i := 170) (by decide +kernel))) (by decide +kernel)
theorem w_171 : Cond.methodLink RVE 44 yVE_readPre ∈ Wd := wd_t (List.mem_append_left _ (List.mem_of_getElem? (i := 171) (by decide +kernel))) (by decide +kernel)
theorem w_173 : Cond.instanceMethod yVE_readPre ∈ Wd := wd_t (List.mem_append_left _ (List.mem_of_getElem? (i := 173) (by decide +kernel))) (by decide +kernel)
theorem w_174 : Cond.code yVE_readPre prog_5_method_8_code 3 (some .boolean) ∈ Wd := wd_t (List.mem_append_left _ (List.mem_of_getElem? (i := 174) (by decide +kernel))) (by decide +kernel)
theorem n_175 : Cond.methodLinkNest RVE 54 yTP_readMark "VersionRanges" ∈ kNest := wd_n (List.mem_append_left _ (List.mem_of_getElem? (i := 175) (by decide +kernel))) (by decide +kernel)
theorem w_177 : Cond.instanceMethod yTP_readMark ∈ Wd := wd_t (List.mem_append_left _ (List.mem_of_getElem? (i := 177) (by decide +kernel))) (by decide +kernel)
theorem w_178 : Cond.code yTP_readMark prog_4_method_11_code 6 (some .long) ∈ Wd := wd_t (List.mem_append_left _ (List.mem_of_getElem? (i := 178) (by decide +kernel))) (by decide +kernel)
theorem w_179 : Cond.methodLink RTP 38 yTP_isLetterOrHyphen ∈ Wd := wd_t (List.mem_append_left _ (List.mem_of_getElem? (i := 179) (by decide +kernel))) (by decide +kernel)
theorem w_180 : Cond.static yTP_isLetterOrHyphen ∈ Wd := wd_t (List.mem_append_left _ (List.mem_of_getElem? (i := 180) (by decide +kernel))) (by decide +kernel)
theorem w_181 : Cond.code yTP_isLetterOrHyphen prog_4_method_12_code 1 (some .boolean) ∈ Wd := wd_t (List.mem_append_left _ (List.mem_of_getElem? (i := 181) (by decide +kernel))) (by decide +kernel)
theorem w_182 : Cond.constantLong RTP 41 (-1) ∈ Wd := wd_t (List.mem_append_left _ (List.mem_of_getElem? (i := 182) (by decide +kernel))) (by decide +kernel)
theorem n_183 : Cond.methodLinkNest RVR 80 yVE_copyFrom "VersionRanges" ∈ kNest := wd_n (List.mem_append_left _ (List.mem_of_getElem? (i := 183) (by decide +kernel))) (by decide +kernel)
theorem w_185 : Cond.instanceMethod yVE_copyFrom ∈ Wd := wd_t (List.mem_append_left _ (List.mem_of_getElem? (i := 185) (by decide +kernel))) (by decide +kernel)
theorem w_186 : Cond.code yVE_copyFrom prog_5_method_5_code 2 none ∈ Wd := wd_t (List.mem_append_left _ (List.mem_of_getElem? (i := 186) (by decide +kernel))) (by decide +kernel)
theorem w_187 : Cond.methodLink RVE 24 ⟨"java/lang/System", "arraycopy", "(Ljava/lang/Object;ILjava/lang/Object;II)V"⟩ ∈ Wd := wd_t (List.mem_append_left _ (List.mem_of_getElem? (i := 187) (by decide +kernel))) (by decide +kernel)
theorem w_188 : Cond.static ⟨"java/lang/System", "arraycopy", "(Ljava/lang/Object;ILjava/lang/Object;II)V"⟩ ∈ Wd := wd_t (List.mem_append_left _ (List.mem_of_getElem? (i := 188) (by decide +kernel))) (by decide +kernel)
theorem w_189 : Cond.native ⟨"java/lang/System", "arraycopy", "(Ljava/lang/Object;ILjava/lang/Object;II)V"⟩ ∈ Wd := wd_t (List.mem_append_left _ (List.mem_of_getElem? (i := 189) (by decide +kernel))) (by decide +kernel)
theorem w_190 : Cond.methodLink RLW 28 yVR_compare ∈ Wd := wd_t (List.mem_append_left _ (List.mem_of_getElem? (i := 190) (by decide +kernel))) (by decide +kernel)
theorem w_191 : Cond.instanceMethod yVR_compare ∈ Wd := wd_t (List.mem_append_left _ (List.mem_of_getElem? (i := 191) (by decide +kernel))) (by decide +kernel)
theorem w_192 : Cond.selects RVR yVR_compare yVR_compare ∈ Wd := wd_t (List.mem_append_left _ (List.mem_of_getElem? (i := 192) (by decide +kernel))) (by decide +kernel)
theorem w_193 : Cond.code yVR_compare prog_1_method_5_code 3 (some .int) ∈ Wd := wd_t (List.mem_append_left _ (List.mem_of_getElem? (i := 193) (by decide +kernel))) (by decide +kernel)
theorem w_194 : Cond.methodLink RVR 53 yVR_isListed ∈ Wd := wd_t (List.mem_append_left _ (List.mem_of_getElem? (i := 194) (by decide +kernel))) (by decide +kernel)
theorem w_196 : Cond.instanceMethod yVR_isListed ∈ Wd := wd_t (List.mem_append_left _ (List.mem_of_getElem? (i := 196) (by decide +kernel))) (by decide +kernel)
theorem w_197 : Cond.code yVR_isListed prog_1_method_10_code 2 (some .boolean) ∈ Wd := wd_t (List.mem_append_left _ (List.mem_of_getElem? (i := 197) (by decide +kernel))) (by decide +kernel)
theorem n_198 : Cond.methodLinkNest RVR 56 yVE_orderTo "VersionRanges" ∈ kNest := wd_n (List.mem_append_left _ (List.mem_of_getElem? (i := 198) (by decide +kernel))) (by decide +kernel)
theorem w_200 : Cond.instanceMethod yVE_orderTo ∈ Wd := wd_t (List.mem_append_left _ (List.mem_of_getElem? (i := 200) (by decide +kernel))) (by decide +kernel)
theorem w_201 : Cond.code yVE_orderTo prog_5_method_6_code 3 (some .int) ∈ Wd := wd_t (List.mem_append_left _ (List.mem_of_getElem? (i := 201) (by decide +kernel))) (by decide +kernel)
theorem w_202 : Cond.methodLink RLW 33 yVR_part ∈ Wd := wd_t (List.mem_append_left _ (List.mem_of_getElem? (i := 202) (by decide +kernel))) (by decide +kernel)
theorem w_203 : Cond.instanceMethod yVR_part ∈ Wd := wd_t (List.mem_append_left _ (List.mem_of_getElem? (i := 203) (by decide +kernel))) (by decide +kernel)
theorem w_204 : Cond.selects RVR yVR_part yVR_part ∈ Wd := wd_t (List.mem_append_left _ (List.mem_of_getElem? (i := 204) (by decide +kernel))) (by decide +kernel)
theorem w_205 : Cond.code yVR_part prog_1_method_6_code 3 (some .int) ∈ Wd := wd_t (List.mem_append_left _ (List.mem_of_getElem? (i := 205) (by decide +kernel))) (by decide +kernel)
theorem n_206 : Cond.methodLinkNest RVR 63 yVE_number "VersionRanges" ∈ kNest := wd_n (List.mem_append_left _ (List.mem_of_getElem? (i := 206) (by decide +kernel))) (by decide +kernel)
theorem w_208 : Cond.instanceMethod yVE_number ∈ Wd := wd_t (List.mem_append_left _ (List.mem_of_getElem? (i := 208) (by decide +kernel))) (by decide +kernel)
theorem w_209 : Cond.code yVE_number prog_5_method_2_code 2 (some .int) ∈ Wd := wd_t (List.mem_append_left _ (List.mem_of_getElem? (i := 209) (by decide +kernel))) (by decide +kernel)
theorem w_210 : Cond.methodLink RLW 37 yVR_rank ∈ Wd := wd_t (List.mem_append_left _ (List.mem_of_getElem? (i := 210) (by decide +kernel))) (by decide +kernel)
theorem w_211 : Cond.instanceMethod yVR_rank ∈ Wd := wd_t (List.mem_append_left _ (List.mem_of_getElem? (i := 211) (by decide +kernel))) (by decide +kernel)
theorem w_212 : Cond.selects RVR yVR_rank yVR_rank ∈ Wd := wd_t (List.mem_append_left _ (List.mem_of_getElem? (i := 212) (by decide +kernel))) (by decide +kernel)
theorem w_213 : Cond.code yVR_rank prog_1_method_7_code 4 (some .int) ∈ Wd := wd_t (List.mem_append_left _ (List.mem_of_getElem? (i := 213) (by decide +kernel))) (by decide +kernel)
theorem w_214 : Cond.methodLink RLW 41 yVR_match ∈ Wd := wd_t (List.mem_append_left _ (List.mem_of_getElem? (i := 214) (by decide +kernel))) (by decide +kernel)
theorem w_215 : Cond.instanceMethod yVR_match ∈ Wd := wd_t (List.mem_append_left _ (List.mem_of_getElem? (i := 215) (by decide +kernel))) (by decide +kernel)
theorem w_216 : Cond.selects RVR yVR_match yVR_match ∈ Wd := wd_t (List.mem_append_left _ (List.mem_of_getElem? (i := 216) (by decide +kernel))) (by decide +kernel)
theorem w_217 : Cond.code yVR_match prog_1_method_8_code 2 (some .int) ∈ Wd := wd_t (List.mem_append_left _ (List.mem_of_getElem? (i := 217) (by decide +kernel))) (by decide +kernel)
theorem w_218 : Cond.methodLink RVR 67 yVR_bitsInRangeOfTape ∈ Wd := wd_t (List.mem_append_left _ (List.mem_of_getElem? (i := 218) (by decide +kernel))) (by decide +kernel)
theorem w_220 : Cond.instanceMethod yVR_bitsInRangeOfTape ∈ Wd := wd_t (List.mem_append_left _ (List.mem_of_getElem? (i := 220) (by decide +kernel))) (by decide +kernel)
theorem w_221 : Cond.code yVR_bitsInRangeOfTape prog_1_method_12_code 7 (some .int) ∈ Wd := wd_t (List.mem_append_left _ (List.mem_of_getElem? (i := 221) (by decide +kernel))) (by decide +kernel)
theorem w_222 : Cond.methodLink RVR 84 yVR_allBits ∈ Wd := wd_t (List.mem_append_left _ (List.mem_of_getElem? (i := 222) (by decide +kernel))) (by decide +kernel)
theorem w_224 : Cond.instanceMethod yVR_allBits ∈ Wd := wd_t (List.mem_append_left _ (List.mem_of_getElem? (i := 224) (by decide +kernel))) (by decide +kernel)
theorem w_225 : Cond.code yVR_allBits prog_1_method_13_code 1 (some .int) ∈ Wd := wd_t (List.mem_append_left _ (List.mem_of_getElem? (i := 225) (by decide +kernel))) (by decide +kernel)
theorem n_226 : Cond.methodLinkNest RVR 87 yTP_isAtOrWord "VersionRanges" ∈ kNest := wd_n (List.mem_append_left _ (List.mem_of_getElem? (i := 226) (by decide +kernel))) (by decide +kernel)
theorem w_228 : Cond.instanceMethod yTP_isAtOrWord ∈ Wd := wd_t (List.mem_append_left _ (List.mem_of_getElem? (i := 228) (by decide +kernel))) (by decide +kernel)
theorem w_229 : Cond.code yTP_isAtOrWord prog_4_method_7_code 1 (some .boolean) ∈ Wd := wd_t (List.mem_append_left _ (List.mem_of_getElem? (i := 229) (by decide +kernel))) (by decide +kernel)
theorem n_230 : Cond.methodLinkNest RVR 91 yRT_readFrom "VersionRanges" ∈ kNest := wd_n (List.mem_append_left _ (List.mem_of_getElem? (i := 230) (by decide +kernel))) (by decide +kernel)
theorem w_232 : Cond.instanceMethod yRT_readFrom ∈ Wd := wd_t (List.mem_append_left _ (List.mem_of_getElem? (i := 232) (by decide +kernel))) (by decide +kernel)
theorem w_233 : Cond.code yRT_readFrom prog_2_method_2_code 2 (some .boolean) ∈ Wd := wd_t (List.mem_append_left _ (List.mem_of_getElem? (i := 233) (by decide +kernel))) (by decide +kernel)
theorem w_234 : Cond.methodLink RRT 28 yRT_readSign ∈ Wd := wd_t (List.mem_append_left _ (List.mem_of_getElem? (i := 234) (by decide +kernel))) (by decide +kernel)
theorem w_235 : Cond.static yRT_readSign ∈ Wd := wd_t (List.mem_append_left _ (List.mem_of_getElem? (i := 235) (by decide +kernel))) (by decide +kernel)
theorem w_236 : Cond.code yRT_readSign prog_2_method_3_code 1 (some (.object "VersionRanges$Sign")) ∈ Wd := wd_t (List.mem_append_left _ (List.mem_of_getElem? (i := 236) (by decide +kernel))) (by decide +kernel)
theorem n_237 : Cond.methodLinkNest RRT 45 yTP_skip "VersionRanges" ∈ kNest := wd_n (List.mem_append_left _ (List.mem_of_getElem? (i := 237) (by decide +kernel))) (by decide +kernel)
theorem w_238 : Cond.fieldLink RRT 49 "VersionRanges$Sign" "AT_OR_BELOW" "LVersionRanges$Sign;" ∈ Wd := wd_t (List.mem_append_left _ (List.mem_of_getElem? (i := 238) (by decide +kernel))) (by decide +kernel)
theorem a_239 : Cond.laysStatic "VersionRanges$Sign" "AT_OR_BELOW" "LVersionRanges$Sign;" ∈ tables_1 := List.mem_append_left _ (List.mem_of_getElem? (i := 239) (by decide +kernel))
theorem w_240 : Cond.fieldLink RRT 52 "VersionRanges$Sign" "BELOW" "LVersionRanges$Sign;" ∈ Wd := wd_t (List.mem_append_right _ (List.mem_append_left _ (List.mem_of_getElem? (i := 0) (by decide +kernel)))) (by decide +kernel)
theorem a_241 : Cond.laysStatic "VersionRanges$Sign" "BELOW" "LVersionRanges$Sign;" ∈ tables_1 := List.mem_append_right _ (List.mem_append_left _ (List.mem_of_getElem? (i := 1) (by decide +kernel)))
theorem w_242 : Cond.fieldLink RRT 55 "VersionRanges$Sign" "AT_OR_ABOVE" "LVersionRanges$Sign;" ∈ Wd := wd_t (List.mem_append_right _ (List.mem_append_left _ (List.mem_of_getElem? (i := 2) (by decide +kernel)))) (by decide +kernel)
theorem a_243 : Cond.laysStatic "VersionRanges$Sign" "AT_OR_ABOVE" "LVersionRanges$Sign;" ∈ tables_1 := List.mem_append_right _ (List.mem_append_left _ (List.mem_of_getElem? (i := 3) (by decide +kernel)))
theorem w_244 : Cond.fieldLink RRT 58 "VersionRanges$Sign" "ABOVE" "LVersionRanges$Sign;" ∈ Wd := wd_t (List.mem_append_right _ (List.mem_append_left _ (List.mem_of_getElem? (i := 4) (by decide +kernel)))) (by decide +kernel)
theorem a_245 : Cond.laysStatic "VersionRanges$Sign" "ABOVE" "LVersionRanges$Sign;" ∈ tables_1 := List.mem_append_right _ (List.mem_append_left _ (List.mem_of_getElem? (i := 5) (by decide +kernel)))
theorem w_246 : Cond.fieldLink RRT 61 "VersionRanges$Sign" "CARET" "LVersionRanges$Sign;" ∈ Wd := wd_t (List.mem_append_right _ (List.mem_append_left _ (List.mem_of_getElem? (i := 6) (by decide +kernel)))) (by decide +kernel)
theorem a_247 : Cond.laysStatic "VersionRanges$Sign" "CARET" "LVersionRanges$Sign;" ∈ tables_1 := List.mem_append_right _ (List.mem_append_left _ (List.mem_of_getElem? (i := 7) (by decide +kernel)))
theorem w_248 : Cond.fieldLink RRT 64 "VersionRanges$Sign" "TILDE" "LVersionRanges$Sign;" ∈ Wd := wd_t (List.mem_append_right _ (List.mem_append_left _ (List.mem_of_getElem? (i := 8) (by decide +kernel)))) (by decide +kernel)
theorem a_249 : Cond.laysStatic "VersionRanges$Sign" "TILDE" "LVersionRanges$Sign;" ∈ tables_1 := List.mem_append_right _ (List.mem_append_left _ (List.mem_of_getElem? (i := 9) (by decide +kernel)))
theorem w_250 : Cond.fieldLink RRT 67 "VersionRanges$Sign" "SAME" "LVersionRanges$Sign;" ∈ Wd := wd_t (List.mem_append_right _ (List.mem_append_left _ (List.mem_of_getElem? (i := 10) (by decide +kernel)))) (by decide +kernel)
theorem a_251 : Cond.laysStatic "VersionRanges$Sign" "SAME" "LVersionRanges$Sign;" ∈ tables_1 := List.mem_append_right _ (List.mem_append_left _ (List.mem_of_getElem? (i := 11) (by decide +kernel)))
theorem n_252 : Cond.methodLinkNest RRT 32 yTP_isAtStop "VersionRanges" ∈ kNest := wd_n (List.mem_append_right _ (List.mem_append_left _ (List.mem_of_getElem? (i := 12) (by decide +kernel)))) (by decide +kernel)
theorem n_253 : Cond.methodLinkNest RRT 38 yVE_readFrom "VersionRanges" ∈ kNest := wd_n (List.mem_append_right _ (List.mem_append_left _ (List.mem_of_getElem? (i := 13) (by decide +kernel)))) (by decide +kernel)
theorem w_254 : Cond.methodLink RRT 42 yRT_setCeiling ∈ Wd := wd_t (List.mem_append_right _ (List.mem_append_left _ (List.mem_of_getElem? (i := 14) (by decide +kernel)))) (by decide +kernel)
theorem w_256 : Cond.instanceMethod yRT_setCeiling ∈ Wd := wd_t (List.mem_append_right _ (List.mem_append_left _ (List.mem_of_getElem? (i := 16) (by decide +kernel)))) (by decide +kernel)
theorem w_257 : Cond.code yRT_setCeiling prog_2_method_4_code 7 none ∈ Wd := wd_t (List.mem_append_right _ (List.mem_append_left _ (List.mem_of_getElem? (i := 17) (by decide +kernel)))) (by decide +kernel)
theorem n_258 : Cond.methodLinkNest RRT 70 yVE_number "VersionRanges" ∈ kNest := wd_n (List.mem_append_right _ (List.mem_append_left _ (List.mem_of_getElem? (i := 18) (by decide +kernel)))) (by decide +kernel)
theorem n_259 : Cond.methodLinkNest RRT 74 yVE_setNumbers "VersionRanges" ∈ kNest := wd_n (List.mem_append_right _ (List.mem_append_left _ (List.mem_of_getElem? (i := 19) (by decide +kernel)))) (by decide +kernel)
theorem w_261 : Cond.instanceMethod yVE_setNumbers ∈ Wd := wd_t (List.mem_append_right _ (List.mem_append_left _ (List.mem_of_getElem? (i := 21) (by decide +kernel)))) (by decide +kernel)
theorem w_262 : Cond.code yVE_setNumbers prog_5_method_3_code 7 none ∈ Wd := wd_t (List.mem_append_right _ (List.mem_append_left _ (List.mem_of_getElem? (i := 22) (by decide +kernel)))) (by decide +kernel)
theorem w_263 : Cond.methodLink RVR 92 yVR_bitsOfTest ∈ Wd := wd_t (List.mem_append_right _ (List.mem_append_left _ (List.mem_of_getElem? (i := 23) (by decide +kernel)))) (by decide +kernel)
theorem w_265 : Cond.instanceMethod yVR_bitsOfTest ∈ Wd := wd_t (List.mem_append_right _ (List.mem_append_left _ (List.mem_of_getElem? (i := 25) (by decide +kernel)))) (by decide +kernel)
theorem w_266 : Cond.code yVR_bitsOfTest prog_1_method_14_code 3 (some .int) ∈ Wd := wd_t (List.mem_append_right _ (List.mem_append_left _ (List.mem_of_getElem? (i := 26) (by decide +kernel)))) (by decide +kernel)
theorem n_267 : Cond.methodLinkNest RVR 95 yRT_holdsFor "VersionRanges" ∈ kNest := wd_n (List.mem_append_right _ (List.mem_append_left _ (List.mem_of_getElem? (i := 27) (by decide +kernel)))) (by decide +kernel)
theorem w_269 : Cond.instanceMethod yRT_holdsFor ∈ Wd := wd_t (List.mem_append_right _ (List.mem_append_left _ (List.mem_of_getElem? (i := 29) (by decide +kernel)))) (by decide +kernel)
theorem w_270 : Cond.code yRT_holdsFor prog_2_method_5_code 3 (some .boolean) ∈ Wd := wd_t (List.mem_append_right _ (List.mem_append_left _ (List.mem_of_getElem? (i := 30) (by decide +kernel)))) (by decide +kernel)
theorem n_271 : Cond.methodLinkNest RRT 78 yVE_orderTo "VersionRanges" ∈ kNest := wd_n (List.mem_append_right _ (List.mem_append_left _ (List.mem_of_getElem? (i := 31) (by decide +kernel)))) (by decide +kernel)
theorem n_272 : Cond.methodLinkNest RRT 82 ySG_hasOrder "VersionRanges" ∈ kNest := wd_n (List.mem_append_right _ (List.mem_append_left _ (List.mem_of_getElem? (i := 32) (by decide +kernel)))) (by decide +kernel)
theorem w_274 : Cond.instanceMethod ySG_hasOrder ∈ Wd := wd_t (List.mem_append_right _ (List.mem_append_left _ (List.mem_of_getElem? (i := 34) (by decide +kernel)))) (by decide +kernel)
theorem w_275 : Cond.instantiable RSG 6 ∈ Wd := wd_t (List.mem_append_right _ (List.mem_append_left _ (List.mem_of_getElem? (i := 35) (by decide +kernel)))) (by decide +kernel)
theorem w_276 : Cond.code ySG_hasOrder prog_3_method_4_code 2 (some .boolean) ∈ Wd := wd_t (List.mem_append_right _ (List.mem_append_left _ (List.mem_of_getElem? (i := 36) (by decide +kernel)))) (by decide +kernel)
theorem w_277 : Cond.methodLink RLW 45 yVR_clear ∈ Wd := wd_t (List.mem_append_right _ (List.mem_append_left _ (List.mem_of_getElem? (i := 37) (by decide +kernel)))) (by decide +kernel)
theorem w_278 : Cond.instanceMethod yVR_clear ∈ Wd := wd_t (List.mem_append_right _ (List.mem_append_left _ (List.mem_of_getElem? (i := 38) (by decide +kernel)))) (by decide +kernel)
theorem w_279 : Cond.selects RVR yVR_clear yVR_clear ∈ Wd := wd_t (List.mem_append_right _ (List.mem_append_left _ (List.mem_of_getElem? (i := 39) (by decide +kernel)))) (by decide +kernel)
theorem w_280 : Cond.code yVR_clear prog_1_method_9_code 2 (some .int) ∈ Wd := wd_t (List.mem_append_right _ (List.mem_append_left _ (List.mem_of_getElem? (i := 40) (by decide +kernel)))) (by decide +kernel)
theorem w_281 : Cond.classLink RLW 10 "VersionRangesModel" ∈ Wd := wd_t (List.mem_append_right _ (List.mem_append_left _ (List.mem_of_getElem? (i := 41) (by decide +kernel)))) (by decide +kernel)
theorem w_282 : Cond.instantiable RMD 7 ∈ Wd := wd_t (List.mem_append_right _ (List.mem_append_left _ (List.mem_of_getElem? (i := 42) (by decide +kernel)))) (by decide +kernel)
theorem w_283 : Cond.methodLink RLW 12 yMD_init ∈ Wd := wd_t (List.mem_append_right _ (List.mem_append_left _ (List.mem_of_getElem? (i := 43) (by decide +kernel)))) (by decide +kernel)
theorem w_284 : Cond.instanceMethod yMD_init ∈ Wd := wd_t (List.mem_append_right _ (List.mem_append_left _ (List.mem_of_getElem? (i := 44) (by decide +kernel)))) (by decide +kernel)
theorem w_285 : Cond.code yMD_init prog_7_method_1_code 1 none ∈ Wd := wd_t (List.mem_append_right _ (List.mem_append_left _ (List.mem_of_getElem? (i := 45) (by decide +kernel)))) (by decide +kernel)
theorem w_286 : Cond.methodLink RMD 1 yOB_init ∈ Wd := wd_t (List.mem_append_right _ (List.mem_append_left _ (List.mem_of_getElem? (i := 46) (by decide +kernel)))) (by decide +kernel)
theorem w_287 : Cond.classLink RMD 13 "java/lang/String" ∈ Wd := wd_t (List.mem_append_right _ (List.mem_append_left _ (List.mem_of_getElem? (i := 47) (by decide +kernel)))) (by decide +kernel)
theorem a_288 : Cond.arrayOver (.object "java/lang/String") ∈ tables_1 := List.mem_append_right _ (List.mem_append_left _ (List.mem_of_getElem? (i := 48) (by decide +kernel)))
theorem w_289 : Cond.classLink RMD 19 "VersionRangesModel$Version" ∈ Wd := wd_t (List.mem_append_right _ (List.mem_append_left _ (List.mem_of_getElem? (i := 49) (by decide +kernel)))) (by decide +kernel)
theorem a_290 : Cond.arrayOver (.object "VersionRangesModel$Version") ∈ tables_1 := List.mem_append_right _ (List.mem_append_left _ (List.mem_of_getElem? (i := 50) (by decide +kernel)))
theorem w_291 : Cond.fieldLink RMD 9 "VersionRangesModel" "tape" "[C" ∈ Wd := wd_t (List.mem_append_right _ (List.mem_append_left _ (List.mem_of_getElem? (i := 51) (by decide +kernel)))) (by decide +kernel)
theorem w_292 : Cond.fieldLink RMD 25 "VersionRangesModel" "tapeLength" "I" ∈ Wd := wd_t (List.mem_append_right _ (List.mem_append_left _ (List.mem_of_getElem? (i := 52) (by decide +kernel)))) (by decide +kernel)
theorem w_293 : Cond.fieldLink RMD 15 "VersionRangesModel" "word" "[Ljava/lang/String;" ∈ Wd := wd_t (List.mem_append_right _ (List.mem_append_left _ (List.mem_of_getElem? (i := 53) (by decide +kernel)))) (by decide +kernel)
theorem w_294 : Cond.fieldLink RMD 33 "VersionRangesModel" "words" "I" ∈ Wd := wd_t (List.mem_append_right _ (List.mem_append_left _ (List.mem_of_getElem? (i := 54) (by decide +kernel)))) (by decide +kernel)
theorem w_295 : Cond.fieldLink RMD 36 "VersionRangesModel" "at" "I" ∈ Wd := wd_t (List.mem_append_right _ (List.mem_append_left _ (List.mem_of_getElem? (i := 55) (by decide +kernel)))) (by decide +kernel)
theorem w_296 : Cond.fieldLink RMD 21 "VersionRangesModel" "list" "[LVersionRangesModel$Version;" ∈ Wd := wd_t (List.mem_append_right _ (List.mem_append_left _ (List.mem_of_getElem? (i := 56) (by decide +kernel)))) (by decide +kernel)
theorem w_297 : Cond.fieldLink RMD 162 "VersionRangesModel" "count" "I" ∈ Wd := wd_t (List.mem_append_right _ (List.mem_append_left _ (List.mem_of_getElem? (i := 57) (by decide +kernel)))) (by decide +kernel)
theorem w_298 : Cond.laysFinal RMD "VersionRangesModel" "tape" "[C" ∈ Wd := wd_t (List.mem_append_right _ (List.mem_append_left _ (List.mem_of_getElem? (i := 58) (by decide +kernel)))) (by decide +kernel)
theorem w_300 : Cond.lays RMD "VersionRangesModel" "tapeLength" "I" ∈ Wd := wd_t (List.mem_append_right _ (List.mem_append_left _ (List.mem_of_getElem? (i := 60) (by decide +kernel)))) (by decide +kernel)
theorem w_302 : Cond.laysFinal RMD "VersionRangesModel" "word" "[Ljava/lang/String;" ∈ Wd := wd_t (List.mem_append_right _ (List.mem_append_left _ (List.mem_of_getElem? (i := 62) (by decide +kernel)))) (by decide +kernel)
theorem w_304 : Cond.lays RMD "VersionRangesModel" "words" "I" ∈ Wd := wd_t (List.mem_append_right _ (List.mem_append_left _ (List.mem_of_getElem? (i := 64) (by decide +kernel)))) (by decide +kernel)
theorem w_306 : Cond.lays RMD "VersionRangesModel" "at" "I" ∈ Wd := wd_t (List.mem_append_right _ (List.mem_append_left _ (List.mem_of_getElem? (i := 66) (by decide +kernel)))) (by decide +kernel)
theorem w_308 : Cond.laysFinal RMD "VersionRangesModel" "list" "[LVersionRangesModel$Version;" ∈ Wd := wd_t (List.mem_append_right _ (List.mem_append_left _ (List.mem_of_getElem? (i := 68) (by decide +kernel)))) (by decide +kernel)
theorem w_310 : Cond.lays RMD "VersionRangesModel" "count" "I" ∈ Wd := wd_t (List.mem_append_right _ (List.mem_append_left _ (List.mem_of_getElem? (i := 70) (by decide +kernel)))) (by decide +kernel)
theorem w_313 : Cond.arrayClass .char ∈ Wd := wd_t (List.mem_append_right _ (List.mem_append_left _ (List.mem_of_getElem? (i := 73) (by decide +kernel)))) (by decide +kernel)
theorem w_314 : Cond.methodLink RLW 17 yMD_feed ∈ Wd := wd_t (List.mem_append_right _ (List.mem_append_left _ (List.mem_of_getElem? (i := 74) (by decide +kernel)))) (by decide +kernel)
theorem w_315 : Cond.instanceMethod yMD_feed ∈ Wd := wd_t (List.mem_append_right _ (List.mem_append_left _ (List.mem_of_getElem? (i := 75) (by decide +kernel)))) (by decide +kernel)
theorem w_316 : Cond.selects RMD yMD_feed yMD_feed ∈ Wd := wd_t (List.mem_append_right _ (List.mem_append_left _ (List.mem_of_getElem? (i := 76) (by decide +kernel)))) (by decide +kernel)
theorem w_317 : Cond.code yMD_feed prog_7_method_3_code 6 (some .int) ∈ Wd := wd_t (List.mem_append_right _ (List.mem_append_left _ (List.mem_of_getElem? (i := 77) (by decide +kernel)))) (by decide +kernel)
theorem w_318 : Cond.methodLink RMD 29 yMD_put ∈ Wd := wd_t (List.mem_append_right _ (List.mem_append_left _ (List.mem_of_getElem? (i := 78) (by decide +kernel)))) (by decide +kernel)
theorem w_320 : Cond.instanceMethod yMD_put ∈ Wd := wd_t (List.mem_append_right _ (List.mem_append_left _ (List.mem_of_getElem? (i := 80) (by decide +kernel)))) (by decide +kernel)
theorem w_321 : Cond.code yMD_put prog_7_method_2_code 3 none ∈ Wd := wd_t (List.mem_append_right _ (List.mem_append_left _ (List.mem_of_getElem? (i := 81) (by decide +kernel)))) (by decide +kernel)
theorem w_322 : Cond.methodLink RLW 22 yMD_end ∈ Wd := wd_t (List.mem_append_right _ (List.mem_append_left _ (List.mem_of_getElem? (i := 82) (by decide +kernel)))) (by decide +kernel)
theorem w_323 : Cond.instanceMethod yMD_end ∈ Wd := wd_t (List.mem_append_right _ (List.mem_append_left _ (List.mem_of_getElem? (i := 83) (by decide +kernel)))) (by decide +kernel)
theorem w_324 : Cond.selects RMD yMD_end yMD_end ∈ Wd := wd_t (List.mem_append_right _ (List.mem_append_left _ (List.mem_of_getElem? (i := 84) (by decide +kernel)))) (by decide +kernel)
theorem w_325 : Cond.code yMD_end prog_7_method_4_code 2 (some .int) ∈ Wd := wd_t (List.mem_append_right _ (List.mem_append_left _ (List.mem_of_getElem? (i := 85) (by decide +kernel)))) (by decide +kernel)
theorem w_326 : Cond.methodLink RLW 27 yMD_take ∈ Wd := wd_t (List.mem_append_right _ (List.mem_append_left _ (List.mem_of_getElem? (i := 86) (by decide +kernel)))) (by decide +kernel)
theorem w_327 : Cond.instanceMethod yMD_take ∈ Wd := wd_t (List.mem_append_right _ (List.mem_append_left _ (List.mem_of_getElem? (i := 87) (by decide +kernel)))) (by decide +kernel)
theorem w_328 : Cond.selects RMD yMD_take yMD_take ∈ Wd := wd_t (List.mem_append_right _ (List.mem_append_left _ (List.mem_of_getElem? (i := 88) (by decide +kernel)))) (by decide +kernel)
theorem w_329 : Cond.code yMD_take prog_7_method_21_code 2 (some .int) ∈ Wd := wd_t (List.mem_append_right _ (List.mem_append_left _ (List.mem_of_getElem? (i := 89) (by decide +kernel)))) (by decide +kernel)
theorem w_330 : Cond.methodLink RMD 159 yMD_readWords ∈ Wd := wd_t (List.mem_append_right _ (List.mem_append_left _ (List.mem_of_getElem? (i := 90) (by decide +kernel)))) (by decide +kernel)
theorem w_332 : Cond.instanceMethod yMD_readWords ∈ Wd := wd_t (List.mem_append_right _ (List.mem_append_left _ (List.mem_of_getElem? (i := 92) (by decide +kernel)))) (by decide +kernel)
theorem w_333 : Cond.code yMD_readWords prog_7_method_5_code 3 none ∈ Wd := wd_t (List.mem_append_right _ (List.mem_append_left _ (List.mem_of_getElem? (i := 93) (by decide +kernel)))) (by decide +kernel)
theorem w_334 : Cond.instantiable RST 4 ∈ Wd := wd_t (List.mem_append_right _ (List.mem_append_left _ (List.mem_of_getElem? (i := 94) (by decide +kernel)))) (by decide +kernel)
theorem w_335 : Cond.methodLink RMD 39 yST_init ∈ Wd := wd_t (List.mem_append_right _ (List.mem_append_left _ (List.mem_of_getElem? (i := 95) (by decide +kernel)))) (by decide +kernel)
theorem w_336 : Cond.instanceMethod yST_init ∈ Wd := wd_t (List.mem_append_right _ (List.mem_append_left _ (List.mem_of_getElem? (i := 96) (by decide +kernel)))) (by decide +kernel)
theorem w_337 : Cond.code yST_init prog_15_method_4_code 4 none ∈ Wd := wd_t (List.mem_append_right _ (List.mem_append_left _ (List.mem_of_getElem? (i := 97) (by decide +kernel)))) (by decide +kernel)
theorem w_338 : Cond.methodLink RST 30 yST_rangeCheck ∈ Wd := wd_t (List.mem_append_right _ (List.mem_append_left _ (List.mem_of_getElem? (i := 98) (by decide +kernel)))) (by decide +kernel)
theorem w_339 : Cond.static yST_rangeCheck ∈ Wd := wd_t (List.mem_append_right _ (List.mem_append_left _ (List.mem_of_getElem? (i := 99) (by decide +kernel)))) (by decide +kernel)
theorem w_340 : Cond.code yST_rangeCheck prog_15_method_5_code 3 (some (.object "java/lang/Void")) ∈ Wd := wd_t (List.mem_append_right _ (List.mem_append_left _ (List.mem_of_getElem? (i := 100) (by decide +kernel)))) (by decide +kernel)
theorem w_341 : Cond.methodLink RST 34 yST_checkBoundsOffCount ∈ Wd := wd_t (List.mem_append_right _ (List.mem_append_left _ (List.mem_of_getElem? (i := 101) (by decide +kernel)))) (by decide +kernel)
theorem w_342 : Cond.static yST_checkBoundsOffCount ∈ Wd := wd_t (List.mem_append_right _ (List.mem_append_left _ (List.mem_of_getElem? (i := 102) (by decide +kernel)))) (by decide +kernel)
theorem w_343 : Cond.code yST_checkBoundsOffCount prog_15_method_157_code 3 (some .int) ∈ Wd := wd_t (List.mem_append_right _ (List.mem_append_left _ (List.mem_of_getElem? (i := 103) (by decide +kernel)))) (by decide +kernel)
theorem w_344 : Cond.fieldLink RST 1053 "jdk/internal/util/Preconditions" "SIOOBE_FORMATTER" "Ljava/util/function/BiFunction;" ∈ Wd := wd_t (List.mem_append_right _ (List.mem_append_left _ (List.mem_of_getElem? (i := 104) (by decide +kernel)))) (by decide +kernel)
theorem a_345 : Cond.laysStatic "jdk/internal/util/Preconditions" "SIOOBE_FORMATTER" "Ljava/util/function/BiFunction;" ∈ tables_1 := List.mem_append_right _ (List.mem_append_left _ (List.mem_of_getElem? (i := 105) (by decide +kernel)))
theorem w_346 : Cond.methodLink RST 1065 yPC_checkFromIndexSize ∈ Wd := wd_t (List.mem_append_right _ (List.mem_append_left _ (List.mem_of_getElem? (i := 106) (by decide +kernel)))) (by decide +kernel)
theorem w_347 : Cond.static yPC_checkFromIndexSize ∈ Wd := wd_t (List.mem_append_right _ (List.mem_append_left _ (List.mem_of_getElem? (i := 107) (by decide +kernel)))) (by decide +kernel)
theorem w_348 : Cond.code yPC_checkFromIndexSize prog_21_method_13_code 4 (some .int) ∈ Wd := wd_t (List.mem_append_right _ (List.mem_append_left _ (List.mem_of_getElem? (i := 108) (by decide +kernel)))) (by decide +kernel)
theorem w_349 : Cond.methodLink RST 27 yST_init2 ∈ Wd := wd_t (List.mem_append_right _ (List.mem_append_left _ (List.mem_of_getElem? (i := 109) (by decide +kernel)))) (by decide +kernel)
theorem w_350 : Cond.instanceMethod yST_init2 ∈ Wd := wd_t (List.mem_append_right _ (List.mem_append_left _ (List.mem_of_getElem? (i := 110) (by decide +kernel)))) (by decide +kernel)
theorem w_351 : Cond.code yST_init2 prog_15_method_149_code 6 none ∈ Wd := wd_t (List.mem_append_right _ (List.mem_append_left _ (List.mem_of_getElem? (i := 111) (by decide +kernel)))) (by decide +kernel)
theorem w_352 : Cond.methodLink RST 1 yOB_init ∈ Wd := wd_t (List.mem_append_right _ (List.mem_append_left _ (List.mem_of_getElem? (i := 112) (by decide +kernel)))) (by decide +kernel)
theorem w_354 : Cond.fieldLink RST 38 "java/lang/String" "COMPACT_STRINGS" "Z" ∈ Wd := wd_t (List.mem_append_right _ (List.mem_append_left _ (List.mem_of_getElem? (i := 114) (by decide +kernel)))) (by decide +kernel)
theorem a_355 : Cond.laysStatic "java/lang/String" "COMPACT_STRINGS" "Z" ∈ tables_1 := List.mem_append_right _ (List.mem_append_left _ (List.mem_of_getElem? (i := 115) (by decide +kernel)))
theorem w_356 : Cond.methodLink RST 177 ySU_compress ∈ Wd := wd_t (List.mem_append_right _ (List.mem_append_left _ (List.mem_of_getElem? (i := 116) (by decide +kernel)))) (by decide +kernel)
theorem w_357 : Cond.static ySU_compress ∈ Wd := wd_t (List.mem_append_right _ (List.mem_append_left _ (List.mem_of_getElem? (i := 117) (by decide +kernel)))) (by decide +kernel)
theorem w_358 : Cond.code ySU_compress prog_17_method_16_code 6 (some (.array .byte)) ∈ Wd := wd_t (List.mem_append_right _ (List.mem_append_left _ (List.mem_of_getElem? (i := 118) (by decide +kernel)))) (by decide +kernel)
theorem w_359 : Cond.methodLink RSU 115 ySU_compress2 ∈ Wd := wd_t (List.mem_append_right _ (List.mem_append_left _ (List.mem_of_getElem? (i := 119) (by decide +kernel)))) (by decide +kernel)
theorem w_360 : Cond.static ySU_compress2 ∈ Wd := wd_t (List.mem_append_right _ (List.mem_append_left _ (List.mem_of_getElem? (i := 120) (by decide +kernel)))) (by decide +kernel)
theorem w_361 : Cond.code ySU_compress2 prog_17_method_21_code 7 (some .int) ∈ Wd := wd_t (List.mem_append_right _ (List.mem_append_left _ (List.mem_of_getElem? (i := 121) (by decide +kernel)))) (by decide +kernel)
theorem w_362 : Cond.methodLink RSU 119 ySU_toBytes ∈ Wd := wd_t (List.mem_append_right _ (List.mem_append_left _ (List.mem_of_getElem? (i := 122) (by decide +kernel)))) (by decide +kernel)
theorem w_363 : Cond.static ySU_toBytes ∈ Wd := wd_t (List.mem_append_right _ (List.mem_append_left _ (List.mem_of_getElem? (i := 123) (by decide +kernel)))) (by decide +kernel)
theorem w_364 : Cond.code ySU_toBytes prog_17_method_14_code 5 (some (.array .byte)) ∈ Wd := wd_t (List.mem_append_right _ (List.mem_append_left _ (List.mem_of_getElem? (i := 124) (by decide +kernel)))) (by decide +kernel)
theorem w_365 : Cond.methodLink RSU 107 ySU_newBytesFor ∈ Wd := wd_t (List.mem_append_right _ (List.mem_append_left _ (List.mem_of_getElem? (i := 125) (by decide +kernel)))) (by decide +kernel)
theorem w_366 : Cond.static ySU_newBytesFor ∈ Wd := wd_t (List.mem_append_right _ (List.mem_append_left _ (List.mem_of_getElem? (i := 126) (by decide +kernel)))) (by decide +kernel)
theorem w_367 : Cond.code ySU_newBytesFor prog_17_method_2_code 1 (some (.array .byte)) ∈ Wd := wd_t (List.mem_append_right _ (List.mem_append_left _ (List.mem_of_getElem? (i := 127) (by decide +kernel)))) (by decide +kernel)
theorem w_368 : Cond.methodLink RSU 11 ySU_newBytesLength ∈ Wd := wd_t (List.mem_append_right _ (List.mem_append_left _ (List.mem_of_getElem? (i := 128) (by decide +kernel)))) (by decide +kernel)
theorem w_369 : Cond.static ySU_newBytesLength ∈ Wd := wd_t (List.mem_append_right _ (List.mem_append_left _ (List.mem_of_getElem? (i := 129) (by decide +kernel)))) (by decide +kernel)
theorem w_370 : Cond.code ySU_newBytesLength prog_17_method_3_code 1 (some .int) ∈ Wd := wd_t (List.mem_append_right _ (List.mem_append_left _ (List.mem_of_getElem? (i := 130) (by decide +kernel)))) (by decide +kernel)
theorem w_371 : Cond.constant RSU 20 1073741823 ∈ Wd := wd_t (List.mem_append_right _ (List.mem_append_left _ (List.mem_of_getElem? (i := 131) (by decide +kernel)))) (by decide +kernel)
theorem w_372 : Cond.methodLink RSU 111 ySU_putChar ∈ Wd := wd_t (List.mem_append_right _ (List.mem_append_left _ (List.mem_of_getElem? (i := 132) (by decide +kernel)))) (by decide +kernel)
theorem w_373 : Cond.static ySU_putChar ∈ Wd := wd_t (List.mem_append_right _ (List.mem_append_left _ (List.mem_of_getElem? (i := 133) (by decide +kernel)))) (by decide +kernel)
theorem w_374 : Cond.code ySU_putChar prog_17_method_4_code 3 none ∈ Wd := wd_t (List.mem_append_right _ (List.mem_append_left _ (List.mem_of_getElem? (i := 134) (by decide +kernel)))) (by decide +kernel)
theorem w_375 : Cond.fieldLink RSU 44 "java/lang/StringUTF16" "$assertionsDisabled" "Z" ∈ Wd := wd_t (List.mem_append_right _ (List.mem_append_left _ (List.mem_of_getElem? (i := 135) (by decide +kernel)))) (by decide +kernel)
theorem a_376 : Cond.laysStatic "java/lang/StringUTF16" "$assertionsDisabled" "Z" ∈ tables_1 := List.mem_append_right _ (List.mem_append_left _ (List.mem_of_getElem? (i := 136) (by decide +kernel)))
theorem w_377 : Cond.methodLink RSU 48 ySU_length ∈ Wd := wd_t (List.mem_append_right _ (List.mem_append_left _ (List.mem_of_getElem? (i := 137) (by decide +kernel)))) (by decide +kernel)
theorem w_378 : Cond.static ySU_length ∈ Wd := wd_t (List.mem_append_right _ (List.mem_append_left _ (List.mem_of_getElem? (i := 138) (by decide +kernel)))) (by decide +kernel)
theorem w_379 : Cond.code ySU_length prog_17_method_6_code 1 (some .int) ∈ Wd := wd_t (List.mem_append_right _ (List.mem_append_left _ (List.mem_of_getElem? (i := 139) (by decide +kernel)))) (by decide +kernel)
theorem w_380 : Cond.fieldLink RSU 59 "java/lang/StringUTF16" "HI_BYTE_SHIFT" "I" ∈ Wd := wd_t (List.mem_append_right _ (List.mem_append_left _ (List.mem_of_getElem? (i := 140) (by decide +kernel)))) (by decide +kernel)
theorem a_381 : Cond.laysStatic "java/lang/StringUTF16" "HI_BYTE_SHIFT" "I" ∈ tables_1 := List.mem_append_right _ (List.mem_append_left _ (List.mem_of_getElem? (i := 141) (by decide +kernel)))
theorem w_382 : Cond.fieldLink RSU 63 "java/lang/StringUTF16" "LO_BYTE_SHIFT" "I" ∈ Wd := wd_t (List.mem_append_right _ (List.mem_append_left _ (List.mem_of_getElem? (i := 142) (by decide +kernel)))) (by decide +kernel)
theorem a_383 : Cond.laysStatic "java/lang/StringUTF16" "LO_BYTE_SHIFT" "I" ∈ tables_1 := List.mem_append_right _ (List.mem_append_left _ (List.mem_of_getElem? (i := 143) (by decide +kernel)))
theorem w_384 : Cond.methodLink RSU 71 ySU_getChar ∈ Wd := wd_t (List.mem_append_right _ (List.mem_append_left _ (List.mem_of_getElem? (i := 144) (by decide +kernel)))) (by decide +kernel)
theorem w_385 : Cond.static ySU_getChar ∈ Wd := wd_t (List.mem_append_right _ (List.mem_append_left _ (List.mem_of_getElem? (i := 145) (by decide +kernel)))) (by decide +kernel)
theorem w_386 : Cond.code ySU_getChar prog_17_method_5_code 2 (some .char) ∈ Wd := wd_t (List.mem_append_right _ (List.mem_append_left _ (List.mem_of_getElem? (i := 146) (by decide +kernel)))) (by decide +kernel)
theorem w_387 : Cond.methodLink RSU 123 ySU_compress3 ∈ Wd := wd_t (List.mem_append_right _ (List.mem_append_left _ (List.mem_of_getElem? (i := 147) (by decide +kernel)))) (by decide +kernel)
theorem w_388 : Cond.static ySU_compress3 ∈ Wd := wd_t (List.mem_append_right _ (List.mem_append_left _ (List.mem_of_getElem? (i := 148) (by decide +kernel)))) (by decide +kernel)
theorem w_389 : Cond.code ySU_compress3 prog_17_method_22_code 7 (some .int) ∈ Wd := wd_t (List.mem_append_right _ (List.mem_append_left _ (List.mem_of_getElem? (i := 149) (by decide +kernel)))) (by decide +kernel)
theorem w_390 : Cond.methodLink RSU 173 ySU_checkBoundsOffCount ∈ Wd := wd_t (List.mem_append_right _ (List.mem_append_left _ (List.mem_of_getElem? (i := 150) (by decide +kernel)))) (by decide +kernel)
theorem w_391 : Cond.static ySU_checkBoundsOffCount ∈ Wd := wd_t (List.mem_append_right _ (List.mem_append_left _ (List.mem_of_getElem? (i := 151) (by decide +kernel)))) (by decide +kernel)
theorem w_392 : Cond.code ySU_checkBoundsOffCount prog_17_method_94_code 3 none ∈ Wd := wd_t (List.mem_append_right _ (List.mem_append_left _ (List.mem_of_getElem? (i := 152) (by decide +kernel)))) (by decide +kernel)
theorem w_393 : Cond.methodLink RSU 419 yST_checkBoundsOffCount ∈ Wd := wd_t (List.mem_append_right _ (List.mem_append_left _ (List.mem_of_getElem? (i := 153) (by decide +kernel)))) (by decide +kernel)
theorem w_394 : Cond.methodLink RST 47 ySU_coderFromArrayLen ∈ Wd := wd_t (List.mem_append_right _ (List.mem_append_left _ (List.mem_of_getElem? (i := 154) (by decide +kernel)))) (by decide +kernel)
theorem w_395 : Cond.static ySU_coderFromArrayLen ∈ Wd := wd_t (List.mem_append_right _ (List.mem_append_left _ (List.mem_of_getElem? (i := 155) (by decide +kernel)))) (by decide +kernel)
theorem w_396 : Cond.code ySU_coderFromArrayLen prog_17_method_15_code 2 (some .byte) ∈ Wd := wd_t (List.mem_append_right _ (List.mem_append_left _ (List.mem_of_getElem? (i := 156) (by decide +kernel)))) (by decide +kernel)
theorem w_397 : Cond.methodLink RST 180 ySU_toBytes ∈ Wd := wd_t (List.mem_append_right _ (List.mem_append_left _ (List.mem_of_getElem? (i := 157) (by decide +kernel)))) (by decide +kernel)
theorem w_398 : Cond.fieldLink RST 9 "java/lang/String" "value" "[B" ∈ Wd := wd_t (List.mem_append_right _ (List.mem_append_left _ (List.mem_of_getElem? (i := 158) (by decide +kernel)))) (by decide +kernel)
theorem w_399 : Cond.fieldLink RST 15 "java/lang/String" "coder" "B" ∈ Wd := wd_t (List.mem_append_right _ (List.mem_append_left _ (List.mem_of_getElem? (i := 159) (by decide +kernel)))) (by decide +kernel)
theorem w_400 : Cond.laysFinal RST "java/lang/String" "value" "[B" ∈ Wd := wd_t (List.mem_append_right _ (List.mem_append_left _ (List.mem_of_getElem? (i := 160) (by decide +kernel)))) (by decide +kernel)
theorem w_402 : Cond.laysFinal RST "java/lang/String" "coder" "B" ∈ Wd := wd_t (List.mem_append_right _ (List.mem_append_left _ (List.mem_of_getElem? (i := 162) (by decide +kernel)))) (by decide +kernel)
theorem w_404 : Cond.lays RST "java/lang/String" "hash" "I" ∈ Wd := wd_t (List.mem_append_right _ (List.mem_append_left _ (List.mem_of_getElem? (i := 164) (by decide +kernel)))) (by decide +kernel)
theorem w_406 : Cond.lays RST "java/lang/String" "hashIsZero" "Z" ∈ Wd := wd_t (List.mem_append_right _ (List.mem_append_left _ (List.mem_of_getElem? (i := 166) (by decide +kernel)))) (by decide +kernel)
theorem w_409 : Cond.methodLink RMD 141 yMD_version ∈ Wd := wd_t (List.mem_append_right _ (List.mem_append_left _ (List.mem_of_getElem? (i := 169) (by decide +kernel)))) (by decide +kernel)
theorem w_410 : Cond.static yMD_version ∈ Wd := wd_t (List.mem_append_right _ (List.mem_append_left _ (List.mem_of_getElem? (i := 170) (by decide +kernel)))) (by decide +kernel)
theorem w_411 : Cond.code yMD_version prog_7_method_11_code 6 (some (.object "VersionRangesModel$Version")) ∈ Wd := wd_t (List.mem_append_right _ (List.mem_append_left _ (List.mem_of_getElem? (i := 171) (by decide +kernel)))) (by decide +kernel)
theorem w_412 : Cond.instantiable RMV 3 ∈ Wd := wd_t (List.mem_append_right _ (List.mem_append_left _ (List.mem_of_getElem? (i := 172) (by decide +kernel)))) (by decide +kernel)
theorem n_413 : Cond.methodLinkNest RMD 60 yMV_init "VersionRangesModel" ∈ kNest := wd_n (List.mem_append_right _ (List.mem_append_left _ (List.mem_of_getElem? (i := 173) (by decide +kernel)))) (by decide +kernel)
theorem w_414 : Cond.instanceMethod yMV_init ∈ Wd := wd_t (List.mem_append_right _ (List.mem_append_left _ (List.mem_of_getElem? (i := 174) (by decide +kernel)))) (by decide +kernel)
theorem w_415 : Cond.code yMV_init prog_9_method_1_code 1 none ∈ Wd := wd_t (List.mem_append_right _ (List.mem_append_left _ (List.mem_of_getElem? (i := 175) (by decide +kernel)))) (by decide +kernel)
theorem w_416 : Cond.methodLink RMV 1 yOB_init ∈ Wd := wd_t (List.mem_append_right _ (List.mem_append_left _ (List.mem_of_getElem? (i := 176) (by decide +kernel)))) (by decide +kernel)
theorem w_417 : Cond.classLink RMV 13 "java/lang/String" ∈ Wd := wd_t (List.mem_append_right _ (List.mem_append_left _ (List.mem_of_getElem? (i := 177) (by decide +kernel)))) (by decide +kernel)
theorem w_418 : Cond.fieldLink RMV 7 "VersionRangesModel$Version" "number" "[I" ∈ Wd := wd_t (List.mem_append_right _ (List.mem_append_left _ (List.mem_of_getElem? (i := 178) (by decide +kernel)))) (by decide +kernel)
theorem w_419 : Cond.fieldLink RMD 61 "VersionRangesModel$Version" "number" "[I" ∈ Wd := wd_t (List.mem_append_right _ (List.mem_append_left _ (List.mem_of_getElem? (i := 179) (by decide +kernel)))) (by decide +kernel)
theorem w_420 : Cond.fieldLink RMV 15 "VersionRangesModel$Version" "mark" "[Ljava/lang/String;" ∈ Wd := wd_t (List.mem_append_right _ (List.mem_append_left _ (List.mem_of_getElem? (i := 180) (by decide +kernel)))) (by decide +kernel)
theorem w_421 : Cond.fieldLink RMD 78 "VersionRangesModel$Version" "mark" "[Ljava/lang/String;" ∈ Wd := wd_t (List.mem_append_right _ (List.mem_append_left _ (List.mem_of_getElem? (i := 181) (by decide +kernel)))) (by decide +kernel)
theorem w_422 : Cond.fieldLink RMD 75 "VersionRangesModel$Version" "marks" "I" ∈ Wd := wd_t (List.mem_append_right _ (List.mem_append_left _ (List.mem_of_getElem? (i := 182) (by decide +kernel)))) (by decide +kernel)
theorem w_423 : Cond.laysFinal RMV "VersionRangesModel$Version" "number" "[I" ∈ Wd := wd_t (List.mem_append_right _ (List.mem_append_left _ (List.mem_of_getElem? (i := 183) (by decide +kernel)))) (by decide +kernel)
theorem w_425 : Cond.laysFinal RMV "VersionRangesModel$Version" "mark" "[Ljava/lang/String;" ∈ Wd := wd_t (List.mem_append_right _ (List.mem_append_left _ (List.mem_of_getElem? (i := 185) (by decide +kernel)))) (by decide +kernel)
theorem w_427 : Cond.lays RMV "VersionRangesModel$Version" "marks" "I" ∈ Wd := wd_t (List.mem_append_right _ (List.mem_append_left _ (List.mem_of_getElem? (i := 187) (by decide +kernel)))) (by decide +kernel)
theorem w_430 : Cond.methodLink RMD 44 yST_length ∈ Wd := wd_t (List.mem_append_right _ (List.mem_append_left _ (List.mem_of_getElem? (i := 190) (by decide +kernel)))) (by decide +kernel)
theorem w_431 : Cond.instanceMethod yST_length ∈ Wd := wd_t (List.mem_append_right _ (List.mem_append_left _ (List.mem_of_getElem? (i := 191) (by decide +kernel)))) (by decide +kernel)
theorem w_432 : Cond.selects RST yST_length yST_length ∈ Wd := wd_t (List.mem_append_right _ (List.mem_append_left _ (List.mem_of_getElem? (i := 192) (by decide +kernel)))) (by decide +kernel)
theorem w_433 : Cond.code yST_length prog_15_method_54_code 1 (some .int) ∈ Wd := wd_t (List.mem_append_right _ (List.mem_append_left _ (List.mem_of_getElem? (i := 193) (by decide +kernel)))) (by decide +kernel)
theorem w_434 : Cond.methodLink RST 335 yST_coder ∈ Wd := wd_t (List.mem_append_right _ (List.mem_append_left _ (List.mem_of_getElem? (i := 194) (by decide +kernel)))) (by decide +kernel)
theorem w_435 : Cond.instanceMethod yST_coder ∈ Wd := wd_t (List.mem_append_right _ (List.mem_append_left _ (List.mem_of_getElem? (i := 195) (by decide +kernel)))) (by decide +kernel)
theorem w_436 : Cond.selects RST yST_coder yST_coder ∈ Wd := wd_t (List.mem_append_right _ (List.mem_append_left _ (List.mem_of_getElem? (i := 196) (by decide +kernel)))) (by decide +kernel)
theorem w_437 : Cond.code yST_coder prog_15_method_152_code 1 (some .byte) ∈ Wd := wd_t (List.mem_append_right _ (List.mem_append_left _ (List.mem_of_getElem? (i := 197) (by decide +kernel)))) (by decide +kernel)
theorem w_438 : Cond.methodLink RMD 48 yST_charAt ∈ Wd := wd_t (List.mem_append_right _ (List.mem_append_left _ (List.mem_of_getElem? (i := 198) (by decide +kernel)))) (by decide +kernel)
theorem w_439 : Cond.instanceMethod yST_charAt ∈ Wd := wd_t (List.mem_append_right _ (List.mem_append_left _ (List.mem_of_getElem? (i := 199) (by decide +kernel)))) (by decide +kernel)
theorem w_440 : Cond.selects RST yST_charAt yST_charAt ∈ Wd := wd_t (List.mem_append_right _ (List.mem_append_left _ (List.mem_of_getElem? (i := 200) (by decide +kernel)))) (by decide +kernel)
theorem w_441 : Cond.code yST_charAt prog_15_method_56_code 2 (some .char) ∈ Wd := wd_t (List.mem_append_right _ (List.mem_append_left _ (List.mem_of_getElem? (i := 201) (by decide +kernel)))) (by decide +kernel)
theorem w_442 : Cond.methodLink RST 492 yST_isLatin1 ∈ Wd := wd_t (List.mem_append_right _ (List.mem_append_left _ (List.mem_of_getElem? (i := 202) (by decide +kernel)))) (by decide +kernel)
theorem w_443 : Cond.instanceMethod yST_isLatin1 ∈ Wd := wd_t (List.mem_append_right _ (List.mem_append_left _ (List.mem_of_getElem? (i := 203) (by decide +kernel)))) (by decide +kernel)
theorem w_444 : Cond.selects RST yST_isLatin1 yST_isLatin1 ∈ Wd := wd_t (List.mem_append_right _ (List.mem_append_left _ (List.mem_of_getElem? (i := 204) (by decide +kernel)))) (by decide +kernel)
theorem w_445 : Cond.code yST_isLatin1 prog_15_method_154_code 1 (some .boolean) ∈ Wd := wd_t (List.mem_append_right _ (List.mem_append_left _ (List.mem_of_getElem? (i := 205) (by decide +kernel)))) (by decide +kernel)
theorem w_446 : Cond.methodLink RST 495 ySL_charAt ∈ Wd := wd_t (List.mem_append_right _ (List.mem_append_left _ (List.mem_of_getElem? (i := 206) (by decide +kernel)))) (by decide +kernel)
theorem w_447 : Cond.static ySL_charAt ∈ Wd := wd_t (List.mem_append_right _ (List.mem_append_left _ (List.mem_of_getElem? (i := 207) (by decide +kernel)))) (by decide +kernel)
theorem w_448 : Cond.code ySL_charAt prog_16_method_2_code 2 (some .char) ∈ Wd := wd_t (List.mem_append_right _ (List.mem_append_left _ (List.mem_of_getElem? (i := 208) (by decide +kernel)))) (by decide +kernel)
theorem w_449 : Cond.methodLink RSL 9 yST_checkIndex ∈ Wd := wd_t (List.mem_append_right _ (List.mem_append_left _ (List.mem_of_getElem? (i := 209) (by decide +kernel)))) (by decide +kernel)
theorem w_450 : Cond.static yST_checkIndex ∈ Wd := wd_t (List.mem_append_right _ (List.mem_append_left _ (List.mem_of_getElem? (i := 210) (by decide +kernel)))) (by decide +kernel)
theorem w_451 : Cond.code yST_checkIndex prog_15_method_155_code 2 none ∈ Wd := wd_t (List.mem_append_right _ (List.mem_append_left _ (List.mem_of_getElem? (i := 211) (by decide +kernel)))) (by decide +kernel)
theorem w_452 : Cond.methodLink RST 1059 yPC_checkIndex ∈ Wd := wd_t (List.mem_append_right _ (List.mem_append_left _ (List.mem_of_getElem? (i := 212) (by decide +kernel)))) (by decide +kernel)
theorem w_453 : Cond.static yPC_checkIndex ∈ Wd := wd_t (List.mem_append_right _ (List.mem_append_left _ (List.mem_of_getElem? (i := 213) (by decide +kernel)))) (by decide +kernel)
theorem w_454 : Cond.code yPC_checkIndex prog_21_method_11_code 3 (some .int) ∈ Wd := wd_t (List.mem_append_right _ (List.mem_append_left _ (List.mem_of_getElem? (i := 214) (by decide +kernel)))) (by decide +kernel)
theorem w_455 : Cond.methodLink RST 498 ySU_charAt ∈ Wd := wd_t (List.mem_append_right _ (List.mem_append_left _ (List.mem_of_getElem? (i := 215) (by decide +kernel)))) (by decide +kernel)
theorem w_456 : Cond.static ySU_charAt ∈ Wd := wd_t (List.mem_append_right _ (List.mem_append_left _ (List.mem_of_getElem? (i := 216) (by decide +kernel)))) (by decide +kernel)
theorem w_457 : Cond.code ySU_charAt prog_17_method_83_code 2 (some .char) ∈ Wd := wd_t (List.mem_append_right _ (List.mem_append_left _ (List.mem_of_getElem? (i := 217) (by decide +kernel)))) (by decide +kernel)
theorem w_458 : Cond.methodLink RSU 67 ySU_checkIndex ∈ Wd := wd_t (List.mem_append_right _ (List.mem_append_left _ (List.mem_of_getElem? (i := 218) (by decide +kernel)))) (by decide +kernel)
theorem w_459 : Cond.static ySU_checkIndex ∈ Wd := wd_t (List.mem_append_right _ (List.mem_append_left _ (List.mem_of_getElem? (i := 219) (by decide +kernel)))) (by decide +kernel)
theorem w_460 : Cond.code ySU_checkIndex prog_17_method_91_code 2 none ∈ Wd := wd_t (List.mem_append_right _ (List.mem_append_left _ (List.mem_of_getElem? (i := 220) (by decide +kernel)))) (by decide +kernel)
theorem w_461 : Cond.methodLink RSU 414 yST_checkIndex ∈ Wd := wd_t (List.mem_append_right _ (List.mem_append_left _ (List.mem_of_getElem? (i := 221) (by decide +kernel)))) (by decide +kernel)
theorem w_462 : Cond.methodLink RMD 52 yMD_digit ∈ Wd := wd_t (List.mem_append_right _ (List.mem_append_left _ (List.mem_of_getElem? (i := 222) (by decide +kernel)))) (by decide +kernel)
theorem w_463 : Cond.static yMD_digit ∈ Wd := wd_t (List.mem_append_right _ (List.mem_append_left _ (List.mem_of_getElem? (i := 223) (by decide +kernel)))) (by decide +kernel)
theorem w_464 : Cond.code yMD_digit prog_7_method_7_code 1 (some .boolean) ∈ Wd := wd_t (List.mem_append_right _ (List.mem_append_left _ (List.mem_of_getElem? (i := 224) (by decide +kernel)))) (by decide +kernel)
theorem w_465 : Cond.methodLink RMD 65 yST_substring ∈ Wd := wd_t (List.mem_append_right _ (List.mem_append_left _ (List.mem_of_getElem? (i := 225) (by decide +kernel)))) (by decide +kernel)
theorem w_466 : Cond.instanceMethod yST_substring ∈ Wd := wd_t (List.mem_append_right _ (List.mem_append_left _ (List.mem_of_getElem? (i := 226) (by decide +kernel)))) (by decide +kernel)
theorem w_467 : Cond.selects RST yST_substring yST_substring ∈ Wd := wd_t (List.mem_append_right _ (List.mem_append_left _ (List.mem_of_getElem? (i := 227) (by decide +kernel)))) (by decide +kernel)
theorem w_468 : Cond.code yST_substring prog_15_method_92_code 5 (some (.object "java/lang/String")) ∈ Wd := wd_t (List.mem_append_right _ (List.mem_append_left _ (List.mem_of_getElem? (i := 228) (by decide +kernel)))) (by decide +kernel)
theorem w_469 : Cond.methodLink RST 505 yST_length ∈ Wd := wd_t (List.mem_append_right _ (List.mem_append_left _ (List.mem_of_getElem? (i := 229) (by decide +kernel)))) (by decide +kernel)
theorem w_470 : Cond.methodLink RST 521 yST_checkBoundsBeginEnd ∈ Wd := wd_t (List.mem_append_right _ (List.mem_append_left _ (List.mem_of_getElem? (i := 230) (by decide +kernel)))) (by decide +kernel)
theorem w_471 : Cond.static yST_checkBoundsBeginEnd ∈ Wd := wd_t (List.mem_append_right _ (List.mem_append_left _ (List.mem_of_getElem? (i := 231) (by decide +kernel)))) (by decide +kernel)
theorem w_472 : Cond.code yST_checkBoundsBeginEnd prog_15_method_158_code 3 none ∈ Wd := wd_t (List.mem_append_right _ (List.mem_append_left _ (List.mem_of_getElem? (i := 232) (by decide +kernel)))) (by decide +kernel)
theorem w_473 : Cond.methodLink RST 1062 yPC_checkFromToIndex ∈ Wd := wd_t (List.mem_append_right _ (List.mem_append_left _ (List.mem_of_getElem? (i := 233) (by decide +kernel)))) (by decide +kernel)
theorem w_474 : Cond.static yPC_checkFromToIndex ∈ Wd := wd_t (List.mem_append_right _ (List.mem_append_left _ (List.mem_of_getElem? (i := 234) (by decide +kernel)))) (by decide +kernel)
theorem w_475 : Cond.code yPC_checkFromToIndex prog_21_method_12_code 4 (some .int) ∈ Wd := wd_t (List.mem_append_right _ (List.mem_append_left _ (List.mem_of_getElem? (i := 235) (by decide +kernel)))) (by decide +kernel)
theorem w_476 : Cond.methodLink RST 685 ySL_newString ∈ Wd := wd_t (List.mem_append_right _ (List.mem_append_left _ (List.mem_of_getElem? (i := 236) (by decide +kernel)))) (by decide +kernel)
theorem w_477 : Cond.static ySL_newString ∈ Wd := wd_t (List.mem_append_right _ (List.mem_append_left _ (List.mem_of_getElem? (i := 237) (by decide +kernel)))) (by decide +kernel)
theorem w_478 : Cond.code ySL_newString prog_16_method_47_code 3 (some (.object "java/lang/String")) ∈ Wd := wd_t (List.mem_append_right _ (List.mem_append_left _ (List.mem_of_getElem? (i := 238) (by decide +kernel)))) (by decide +kernel)
theorem w_480 : Cond.classLink RSL 1 "java/lang/String" ∈ Wd := wd_t (List.mem_append_right _ (List.mem_append_right _ (List.mem_of_getElem? (i := 0) (by decide +kernel)))) (by decide +kernel)
theorem w_481 : Cond.methodLink RSL 232 yAR_copyOfRange ∈ Wd := wd_t (List.mem_append_right _ (List.mem_append_right _ (List.mem_of_getElem? (i := 1) (by decide +kernel)))) (by decide +kernel)
theorem w_482 : Cond.static yAR_copyOfRange ∈ Wd := wd_t (List.mem_append_right _ (List.mem_append_right _ (List.mem_of_getElem? (i := 2) (by decide +kernel)))) (by decide +kernel)
theorem w_483 : Cond.code yAR_copyOfRange prog_19_method_132_code 3 (some (.array .byte)) ∈ Wd := wd_t (List.mem_append_right _ (List.mem_append_right _ (List.mem_of_getElem? (i := 3) (by decide +kernel)))) (by decide +kernel)
theorem w_484 : Cond.methodLink RAR 339 yAR_copyOfRangeByte ∈ Wd := wd_t (List.mem_append_right _ (List.mem_append_right _ (List.mem_of_getElem? (i := 4) (by decide +kernel)))) (by decide +kernel)
theorem w_485 : Cond.static yAR_copyOfRangeByte ∈ Wd := wd_t (List.mem_append_right _ (List.mem_append_right _ (List.mem_of_getElem? (i := 5) (by decide +kernel)))) (by decide +kernel)
theorem w_486 : Cond.code yAR_copyOfRangeByte prog_19_method_133_code 5 (some (.array .byte)) ∈ Wd := wd_t (List.mem_append_right _ (List.mem_append_right _ (List.mem_of_getElem? (i := 6) (by decide +kernel)))) (by decide +kernel)
theorem w_487 : Cond.methodLink RAR 343 yAR_checkLength ∈ Wd := wd_t (List.mem_append_right _ (List.mem_append_right _ (List.mem_of_getElem? (i := 7) (by decide +kernel)))) (by decide +kernel)
theorem w_488 : Cond.static yAR_checkLength ∈ Wd := wd_t (List.mem_append_right _ (List.mem_append_right _ (List.mem_of_getElem? (i := 8) (by decide +kernel)))) (by decide +kernel)
theorem w_489 : Cond.code yAR_checkLength prog_19_method_131_code 2 none ∈ Wd := wd_t (List.mem_append_right _ (List.mem_append_right _ (List.mem_of_getElem? (i := 9) (by decide +kernel)))) (by decide +kernel)
theorem w_490 : Cond.methodLink RAR 304 yMA_min ∈ Wd := wd_t (List.mem_append_right _ (List.mem_append_right _ (List.mem_of_getElem? (i := 10) (by decide +kernel)))) (by decide +kernel)
theorem w_491 : Cond.static yMA_min ∈ Wd := wd_t (List.mem_append_right _ (List.mem_append_right _ (List.mem_of_getElem? (i := 11) (by decide +kernel)))) (by decide +kernel)
theorem w_492 : Cond.code yMA_min prog_14_method_69_code 2 (some .int) ∈ Wd := wd_t (List.mem_append_right _ (List.mem_append_right _ (List.mem_of_getElem? (i := 12) (by decide +kernel)))) (by decide +kernel)
theorem w_493 : Cond.methodLink RAR 150 ⟨"java/lang/System", "arraycopy", "(Ljava/lang/Object;ILjava/lang/Object;II)V"⟩ ∈ Wd := wd_t (List.mem_append_right _ (List.mem_append_right _ (List.mem_of_getElem? (i := 13) (by decide +kernel)))) (by decide +kernel)
theorem w_494 : Cond.methodLink RAR 310 ⟨"[B", "clone", "()Ljava/lang/Object;"⟩ ∈ Wd := wd_t (List.mem_append_right _ (List.mem_append_right _ (List.mem_of_getElem? (i := 14) (by decide +kernel)))) (by decide +kernel)
theorem w_496 : Cond.native ⟨"java/lang/Object", "clone", "()Ljava/lang/Object;"⟩ ∈ Wd := wd_t (List.mem_append_right _ (List.mem_append_right _ (List.mem_of_getElem? (i := 16) (by decide +kernel)))) (by decide +kernel)
theorem w_497 : Cond.instanceMethod ⟨"java/lang/Object", "clone", "()Ljava/lang/Object;"⟩ ∈ Wd := wd_t (List.mem_append_right _ (List.mem_append_right _ (List.mem_of_getElem? (i := 17) (by decide +kernel)))) (by decide +kernel)
theorem w_498 : Cond.selects "[B" ⟨"[B", "clone", "()Ljava/lang/Object;"⟩ ⟨"java/lang/Object", "clone", "()Ljava/lang/Object;"⟩ ∈ Wd := wd_t (List.mem_append_right _ (List.mem_append_right _ (List.mem_of_getElem? (i := 18) (by decide +kernel)))) (by decide +kernel)
theorem w_500 : Cond.classLink RAR 311 "[B" ∈ Wd := wd_t (List.mem_append_right _ (List.mem_append_right _ (List.mem_of_getElem? (i := 20) (by decide +kernel)))) (by decide +kernel)
theorem w_501 : Cond.methodLink RSL 112 yST_init3 ∈ Wd := wd_t (List.mem_append_right _ (List.mem_append_right _ (List.mem_of_getElem? (i := 21) (by decide +kernel)))) (by decide +kernel)
theorem w_502 : Cond.instanceMethod yST_init3 ∈ Wd := wd_t (List.mem_append_right _ (List.mem_append_right _ (List.mem_of_getElem? (i := 22) (by decide +kernel)))) (by decide +kernel)
theorem w_503 : Cond.code yST_init3 prog_15_method_151_code 3 none ∈ Wd := wd_t (List.mem_append_right _ (List.mem_append_right _ (List.mem_of_getElem? (i := 23) (by decide +kernel)))) (by decide +kernel)
theorem w_504 : Cond.methodLink RST 689 ySU_newString ∈ Wd := wd_t (List.mem_append_right _ (List.mem_append_right _ (List.mem_of_getElem? (i := 24) (by decide +kernel)))) (by decide +kernel)
theorem w_505 : Cond.static ySU_newString ∈ Wd := wd_t (List.mem_append_right _ (List.mem_append_right _ (List.mem_of_getElem? (i := 25) (by decide +kernel)))) (by decide +kernel)
theorem w_506 : Cond.code ySU_newString prog_17_method_69_code 5 (some (.object "java/lang/String")) ∈ Wd := wd_t (List.mem_append_right _ (List.mem_append_right _ (List.mem_of_getElem? (i := 26) (by decide +kernel)))) (by decide +kernel)
theorem w_508 : Cond.fieldLink RSU 251 "java/lang/String" "COMPACT_STRINGS" "Z" ∈ Wd := wd_t (List.mem_append_right _ (List.mem_append_right _ (List.mem_of_getElem? (i := 28) (by decide +kernel)))) (by decide +kernel)
theorem w_509 : Cond.methodLink RSU 257 ySU_compress4 ∈ Wd := wd_t (List.mem_append_right _ (List.mem_append_right _ (List.mem_of_getElem? (i := 29) (by decide +kernel)))) (by decide +kernel)
theorem w_510 : Cond.static ySU_compress4 ∈ Wd := wd_t (List.mem_append_right _ (List.mem_append_right _ (List.mem_of_getElem? (i := 30) (by decide +kernel)))) (by decide +kernel)
theorem w_511 : Cond.code ySU_compress4 prog_17_method_17_code 6 (some (.array .byte)) ∈ Wd := wd_t (List.mem_append_right _ (List.mem_append_right _ (List.mem_of_getElem? (i := 31) (by decide +kernel)))) (by decide +kernel)
theorem w_512 : Cond.methodLink RSU 126 yAR_copyOfRange ∈ Wd := wd_t (List.mem_append_right _ (List.mem_append_right _ (List.mem_of_getElem? (i := 32) (by decide +kernel)))) (by decide +kernel)
theorem w_513 : Cond.methodLink RSU 259 ySU_coderFromArrayLen ∈ Wd := wd_t (List.mem_append_right _ (List.mem_append_right _ (List.mem_of_getElem? (i := 33) (by decide +kernel)))) (by decide +kernel)
theorem w_514 : Cond.classLink RSU 3 "java/lang/String" ∈ Wd := wd_t (List.mem_append_right _ (List.mem_append_right _ (List.mem_of_getElem? (i := 34) (by decide +kernel)))) (by decide +kernel)
theorem w_515 : Cond.methodLink RSU 263 yST_init3 ∈ Wd := wd_t (List.mem_append_right _ (List.mem_append_right _ (List.mem_of_getElem? (i := 35) (by decide +kernel)))) (by decide +kernel)
theorem w_516 : Cond.methodLink RMD 69 yMD_number ∈ Wd := wd_t (List.mem_append_right _ (List.mem_append_right _ (List.mem_of_getElem? (i := 36) (by decide +kernel)))) (by decide +kernel)
theorem w_517 : Cond.static yMD_number ∈ Wd := wd_t (List.mem_append_right _ (List.mem_append_right _ (List.mem_of_getElem? (i := 37) (by decide +kernel)))) (by decide +kernel)
theorem w_518 : Cond.code yMD_number prog_7_method_10_code 4 (some .int) ∈ Wd := wd_t (List.mem_append_right _ (List.mem_append_right _ (List.mem_of_getElem? (i := 38) (by decide +kernel)))) (by decide +kernel)
theorem w_519 : Cond.methodLink RMD 56 yMD_digits ∈ Wd := wd_t (List.mem_append_right _ (List.mem_append_right _ (List.mem_of_getElem? (i := 39) (by decide +kernel)))) (by decide +kernel)
theorem w_520 : Cond.static yMD_digits ∈ Wd := wd_t (List.mem_append_right _ (List.mem_append_right _ (List.mem_of_getElem? (i := 40) (by decide +kernel)))) (by decide +kernel)
theorem w_521 : Cond.code yMD_digits prog_7_method_9_code 2 (some .boolean) ∈ Wd := wd_t (List.mem_append_right _ (List.mem_append_right _ (List.mem_of_getElem? (i := 41) (by decide +kernel)))) (by decide +kernel)
theorem w_522 : Cond.methodLink RMD 72 yMD_letter ∈ Wd := wd_t (List.mem_append_right _ (List.mem_append_right _ (List.mem_of_getElem? (i := 42) (by decide +kernel)))) (by decide +kernel)
theorem w_523 : Cond.static yMD_letter ∈ Wd := wd_t (List.mem_append_right _ (List.mem_append_right _ (List.mem_of_getElem? (i := 43) (by decide +kernel)))) (by decide +kernel)
theorem w_524 : Cond.code yMD_letter prog_7_method_8_code 1 (some .boolean) ∈ Wd := wd_t (List.mem_append_right _ (List.mem_append_right _ (List.mem_of_getElem? (i := 44) (by decide +kernel)))) (by decide +kernel)
theorem w_525 : Cond.methodLink RLW 32 yMD_compare ∈ Wd := wd_t (List.mem_append_right _ (List.mem_append_right _ (List.mem_of_getElem? (i := 45) (by decide +kernel)))) (by decide +kernel)
theorem w_526 : Cond.instanceMethod yMD_compare ∈ Wd := wd_t (List.mem_append_right _ (List.mem_append_right _ (List.mem_of_getElem? (i := 46) (by decide +kernel)))) (by decide +kernel)
theorem w_527 : Cond.selects RMD yMD_compare yMD_compare ∈ Wd := wd_t (List.mem_append_right _ (List.mem_append_right _ (List.mem_of_getElem? (i := 47) (by decide +kernel)))) (by decide +kernel)
theorem w_528 : Cond.code yMD_compare prog_7_method_23_code 3 (some .int) ∈ Wd := wd_t (List.mem_append_right _ (List.mem_append_right _ (List.mem_of_getElem? (i := 48) (by decide +kernel)))) (by decide +kernel)
theorem w_529 : Cond.methodLink RMD 165 yMD_is ∈ Wd := wd_t (List.mem_append_right _ (List.mem_append_right _ (List.mem_of_getElem? (i := 49) (by decide +kernel)))) (by decide +kernel)
theorem w_531 : Cond.instanceMethod yMD_is ∈ Wd := wd_t (List.mem_append_right _ (List.mem_append_right _ (List.mem_of_getElem? (i := 51) (by decide +kernel)))) (by decide +kernel)
theorem w_532 : Cond.code yMD_is prog_7_method_22_code 2 (some .boolean) ∈ Wd := wd_t (List.mem_append_right _ (List.mem_append_right _ (List.mem_of_getElem? (i := 52) (by decide +kernel)))) (by decide +kernel)
theorem w_533 : Cond.methodLink RMD 147 yMD_order ∈ Wd := wd_t (List.mem_append_right _ (List.mem_append_right _ (List.mem_of_getElem? (i := 53) (by decide +kernel)))) (by decide +kernel)
theorem w_534 : Cond.static yMD_order ∈ Wd := wd_t (List.mem_append_right _ (List.mem_append_right _ (List.mem_of_getElem? (i := 54) (by decide +kernel)))) (by decide +kernel)
theorem w_535 : Cond.code yMD_order prog_7_method_13_code 4 (some .int) ∈ Wd := wd_t (List.mem_append_right _ (List.mem_append_right _ (List.mem_of_getElem? (i := 55) (by decide +kernel)))) (by decide +kernel)
theorem w_536 : Cond.methodLink RMD 81 yMD_mark ∈ Wd := wd_t (List.mem_append_right _ (List.mem_append_right _ (List.mem_of_getElem? (i := 56) (by decide +kernel)))) (by decide +kernel)
theorem w_537 : Cond.static yMD_mark ∈ Wd := wd_t (List.mem_append_right _ (List.mem_append_right _ (List.mem_of_getElem? (i := 57) (by decide +kernel)))) (by decide +kernel)
theorem w_538 : Cond.code yMD_mark prog_7_method_12_code 5 (some .int) ∈ Wd := wd_t (List.mem_append_right _ (List.mem_append_right _ (List.mem_of_getElem? (i := 58) (by decide +kernel)))) (by decide +kernel)
theorem w_539 : Cond.methodLink RLW 36 yMD_part ∈ Wd := wd_t (List.mem_append_right _ (List.mem_append_right _ (List.mem_of_getElem? (i := 59) (by decide +kernel)))) (by decide +kernel)
theorem w_540 : Cond.instanceMethod yMD_part ∈ Wd := wd_t (List.mem_append_right _ (List.mem_append_right _ (List.mem_of_getElem? (i := 60) (by decide +kernel)))) (by decide +kernel)
theorem w_541 : Cond.selects RMD yMD_part yMD_part ∈ Wd := wd_t (List.mem_append_right _ (List.mem_append_right _ (List.mem_of_getElem? (i := 61) (by decide +kernel)))) (by decide +kernel)
theorem w_542 : Cond.code yMD_part prog_7_method_24_code 5 (some .int) ∈ Wd := wd_t (List.mem_append_right _ (List.mem_append_right _ (List.mem_of_getElem? (i := 62) (by decide +kernel)))) (by decide +kernel)
theorem w_543 : Cond.methodLink RLW 40 yMD_rank ∈ Wd := wd_t (List.mem_append_right _ (List.mem_append_right _ (List.mem_of_getElem? (i := 63) (by decide +kernel)))) (by decide +kernel)
theorem w_544 : Cond.instanceMethod yMD_rank ∈ Wd := wd_t (List.mem_append_right _ (List.mem_append_right _ (List.mem_of_getElem? (i := 64) (by decide +kernel)))) (by decide +kernel)
theorem w_545 : Cond.selects RMD yMD_rank yMD_rank ∈ Wd := wd_t (List.mem_append_right _ (List.mem_append_right _ (List.mem_of_getElem? (i := 65) (by decide +kernel)))) (by decide +kernel)
theorem w_546 : Cond.code yMD_rank prog_7_method_25_code 4 (some .int) ∈ Wd := wd_t (List.mem_append_right _ (List.mem_append_right _ (List.mem_of_getElem? (i := 66) (by decide +kernel)))) (by decide +kernel)
theorem w_547 : Cond.methodLink RLW 44 yMD_match ∈ Wd := wd_t (List.mem_append_right _ (List.mem_append_right _ (List.mem_of_getElem? (i := 67) (by decide +kernel)))) (by decide +kernel)
theorem w_548 : Cond.instanceMethod yMD_match ∈ Wd := wd_t (List.mem_append_right _ (List.mem_append_right _ (List.mem_of_getElem? (i := 68) (by decide +kernel)))) (by decide +kernel)
theorem w_549 : Cond.selects RMD yMD_match yMD_match ∈ Wd := wd_t (List.mem_append_right _ (List.mem_append_right _ (List.mem_of_getElem? (i := 69) (by decide +kernel)))) (by decide +kernel)
theorem w_550 : Cond.code yMD_match prog_7_method_26_code 4 (some .int) ∈ Wd := wd_t (List.mem_append_right _ (List.mem_append_right _ (List.mem_of_getElem? (i := 70) (by decide +kernel)))) (by decide +kernel)
theorem w_551 : Cond.methodLink RMD 169 yMD_range ∈ Wd := wd_t (List.mem_append_right _ (List.mem_append_right _ (List.mem_of_getElem? (i := 71) (by decide +kernel)))) (by decide +kernel)
theorem w_553 : Cond.instanceMethod yMD_range ∈ Wd := wd_t (List.mem_append_right _ (List.mem_append_right _ (List.mem_of_getElem? (i := 73) (by decide +kernel)))) (by decide +kernel)
theorem w_554 : Cond.code yMD_range prog_7_method_17_code 5 (some (.object "VersionRangesModel$Range")) ∈ Wd := wd_t (List.mem_append_right _ (List.mem_append_right _ (List.mem_of_getElem? (i := 74) (by decide +kernel)))) (by decide +kernel)
theorem w_555 : Cond.classLink RMD 115 "VersionRangesModel$Range" ∈ Wd := wd_t (List.mem_append_right _ (List.mem_append_right _ (List.mem_of_getElem? (i := 75) (by decide +kernel)))) (by decide +kernel)
theorem w_556 : Cond.instantiable RMR 4 ∈ Wd := wd_t (List.mem_append_right _ (List.mem_append_right _ (List.mem_of_getElem? (i := 76) (by decide +kernel)))) (by decide +kernel)
theorem n_557 : Cond.methodLinkNest RMD 117 yMR_init "VersionRangesModel" ∈ kNest := wd_n (List.mem_append_right _ (List.mem_append_right _ (List.mem_of_getElem? (i := 77) (by decide +kernel)))) (by decide +kernel)
theorem w_558 : Cond.instanceMethod yMR_init ∈ Wd := wd_t (List.mem_append_right _ (List.mem_append_right _ (List.mem_of_getElem? (i := 78) (by decide +kernel)))) (by decide +kernel)
theorem w_559 : Cond.code yMR_init prog_8_method_1_code 1 none ∈ Wd := wd_t (List.mem_append_right _ (List.mem_append_right _ (List.mem_of_getElem? (i := 79) (by decide +kernel)))) (by decide +kernel)
theorem w_560 : Cond.methodLink RMR 1 yOB_init ∈ Wd := wd_t (List.mem_append_right _ (List.mem_append_right _ (List.mem_of_getElem? (i := 80) (by decide +kernel)))) (by decide +kernel)
theorem w_561 : Cond.classLink RMR 13 "VersionRangesModel$Version" ∈ Wd := wd_t (List.mem_append_right _ (List.mem_append_right _ (List.mem_of_getElem? (i := 81) (by decide +kernel)))) (by decide +kernel)
theorem w_562 : Cond.fieldLink RMR 7 "VersionRangesModel$Range" "sign" "[I" ∈ Wd := wd_t (List.mem_append_right _ (List.mem_append_right _ (List.mem_of_getElem? (i := 82) (by decide +kernel)))) (by decide +kernel)
theorem w_563 : Cond.fieldLink RMD 129 "VersionRangesModel$Range" "sign" "[I" ∈ Wd := wd_t (List.mem_append_right _ (List.mem_append_right _ (List.mem_of_getElem? (i := 83) (by decide +kernel)))) (by decide +kernel)
theorem w_564 : Cond.fieldLink RMR 15 "VersionRangesModel$Range" "version" "[LVersionRangesModel$Version;" ∈ Wd := wd_t (List.mem_append_right _ (List.mem_append_right _ (List.mem_of_getElem? (i := 84) (by decide +kernel)))) (by decide +kernel)
theorem w_565 : Cond.fieldLink RMD 135 "VersionRangesModel$Range" "version" "[LVersionRangesModel$Version;" ∈ Wd := wd_t (List.mem_append_right _ (List.mem_append_right _ (List.mem_of_getElem? (i := 85) (by decide +kernel)))) (by decide +kernel)
theorem w_566 : Cond.fieldLink RMR 19 "VersionRangesModel$Range" "tests" "[I" ∈ Wd := wd_t (List.mem_append_right _ (List.mem_append_right _ (List.mem_of_getElem? (i := 86) (by decide +kernel)))) (by decide +kernel)
theorem w_567 : Cond.fieldLink RMD 144 "VersionRangesModel$Range" "tests" "[I" ∈ Wd := wd_t (List.mem_append_right _ (List.mem_append_right _ (List.mem_of_getElem? (i := 87) (by decide +kernel)))) (by decide +kernel)
theorem w_568 : Cond.fieldLink RMD 118 "VersionRangesModel$Range" "choices" "I" ∈ Wd := wd_t (List.mem_append_right _ (List.mem_append_right _ (List.mem_of_getElem? (i := 88) (by decide +kernel)))) (by decide +kernel)
theorem w_569 : Cond.laysFinal RMR "VersionRangesModel$Range" "sign" "[I" ∈ Wd := wd_t (List.mem_append_right _ (List.mem_append_right _ (List.mem_of_getElem? (i := 89) (by decide +kernel)))) (by decide +kernel)
theorem w_571 : Cond.laysFinal RMR "VersionRangesModel$Range" "version" "[LVersionRangesModel$Version;" ∈ Wd := wd_t (List.mem_append_right _ (List.mem_append_right _ (List.mem_of_getElem? (i := 91) (by decide +kernel)))) (by decide +kernel)
theorem w_573 : Cond.laysFinal RMR "VersionRangesModel$Range" "tests" "[I" ∈ Wd := wd_t (List.mem_append_right _ (List.mem_append_right _ (List.mem_of_getElem? (i := 93) (by decide +kernel)))) (by decide +kernel)
theorem w_575 : Cond.lays RMR "VersionRangesModel$Range" "choices" "I" ∈ Wd := wd_t (List.mem_append_right _ (List.mem_append_right _ (List.mem_of_getElem? (i := 95) (by decide +kernel)))) (by decide +kernel)
theorem w_578 : Cond.methodLink RMD 121 yMD_ends ∈ Wd := wd_t (List.mem_append_right _ (List.mem_append_right _ (List.mem_of_getElem? (i := 98) (by decide +kernel)))) (by decide +kernel)
theorem w_580 : Cond.instanceMethod yMD_ends ∈ Wd := wd_t (List.mem_append_right _ (List.mem_append_right _ (List.mem_of_getElem? (i := 100) (by decide +kernel)))) (by decide +kernel)
theorem w_581 : Cond.code yMD_ends prog_7_method_16_code 1 (some .boolean) ∈ Wd := wd_t (List.mem_append_right _ (List.mem_append_right _ (List.mem_of_getElem? (i := 101) (by decide +kernel)))) (by decide +kernel)
theorem w_582 : Cond.methodLink RMD 101 yMD_here ∈ Wd := wd_t (List.mem_append_right _ (List.mem_append_right _ (List.mem_of_getElem? (i := 102) (by decide +kernel)))) (by decide +kernel)
theorem w_584 : Cond.instanceMethod yMD_here ∈ Wd := wd_t (List.mem_append_right _ (List.mem_append_right _ (List.mem_of_getElem? (i := 104) (by decide +kernel)))) (by decide +kernel)
theorem w_585 : Cond.code yMD_here prog_7_method_6_code 1 (some (.object "java/lang/String")) ∈ Wd := wd_t (List.mem_append_right _ (List.mem_append_right _ (List.mem_of_getElem? (i := 105) (by decide +kernel)))) (by decide +kernel)
theorem w_588 : Cond.methodLink RMD 107 yST_equals ∈ Wd := wd_t (List.mem_append_right _ (List.mem_append_right _ (List.mem_of_getElem? (i := 108) (by decide +kernel)))) (by decide +kernel)
theorem w_589 : Cond.instanceMethod yST_equals ∈ Wd := wd_t (List.mem_append_right _ (List.mem_append_right _ (List.mem_of_getElem? (i := 109) (by decide +kernel)))) (by decide +kernel)
theorem w_590 : Cond.selects RST yST_equals yST_equals ∈ Wd := wd_t (List.mem_append_right _ (List.mem_append_right _ (List.mem_of_getElem? (i := 110) (by decide +kernel)))) (by decide +kernel)
theorem w_591 : Cond.code yST_equals prog_15_method_66_code 3 (some .boolean) ∈ Wd := wd_t (List.mem_append_right _ (List.mem_append_right _ (List.mem_of_getElem? (i := 111) (by decide +kernel)))) (by decide +kernel)
theorem w_592 : Cond.classLink RST 10 "java/lang/String" ∈ Wd := wd_t (List.mem_append_right _ (List.mem_append_right _ (List.mem_of_getElem? (i := 112) (by decide +kernel)))) (by decide +kernel)
theorem w_593 : Cond.methodLink RST 541 ySL_equals ∈ Wd := wd_t (List.mem_append_right _ (List.mem_append_right _ (List.mem_of_getElem? (i := 113) (by decide +kernel)))) (by decide +kernel)
theorem w_594 : Cond.static ySL_equals ∈ Wd := wd_t (List.mem_append_right _ (List.mem_append_right _ (List.mem_of_getElem? (i := 114) (by decide +kernel)))) (by decide +kernel)
theorem w_595 : Cond.code ySL_equals prog_16_method_13_code 3 (some .boolean) ∈ Wd := wd_t (List.mem_append_right _ (List.mem_append_right _ (List.mem_of_getElem? (i := 115) (by decide +kernel)))) (by decide +kernel)
theorem w_600 : Cond.methodLink RMD 132 yMD_sign ∈ Wd := wd_t (List.mem_append_right _ (List.mem_append_right _ (List.mem_of_getElem? (i := 120) (by decide +kernel)))) (by decide +kernel)
theorem w_601 : Cond.static yMD_sign ∈ Wd := wd_t (List.mem_append_right _ (List.mem_append_right _ (List.mem_of_getElem? (i := 121) (by decide +kernel)))) (by decide +kernel)
theorem w_602 : Cond.code yMD_sign prog_7_method_15_code 1 (some .int) ∈ Wd := wd_t (List.mem_append_right _ (List.mem_append_right _ (List.mem_of_getElem? (i := 122) (by decide +kernel)))) (by decide +kernel)
theorem w_604 : Cond.methodLink RMD 86 yST_startsWith ∈ Wd := wd_t (List.mem_append_right _ (List.mem_append_right _ (List.mem_of_getElem? (i := 124) (by decide +kernel)))) (by decide +kernel)
theorem w_605 : Cond.instanceMethod yST_startsWith ∈ Wd := wd_t (List.mem_append_right _ (List.mem_append_right _ (List.mem_of_getElem? (i := 125) (by decide +kernel)))) (by decide +kernel)
theorem w_606 : Cond.selects RST yST_startsWith yST_startsWith ∈ Wd := wd_t (List.mem_append_right _ (List.mem_append_right _ (List.mem_of_getElem? (i := 126) (by decide +kernel)))) (by decide +kernel)
theorem w_607 : Cond.code yST_startsWith prog_15_method_76_code 2 (some .boolean) ∈ Wd := wd_t (List.mem_append_right _ (List.mem_append_right _ (List.mem_of_getElem? (i := 127) (by decide +kernel)))) (by decide +kernel)
theorem w_608 : Cond.methodLink RST 624 yST_startsWith2 ∈ Wd := wd_t (List.mem_append_right _ (List.mem_append_right _ (List.mem_of_getElem? (i := 128) (by decide +kernel)))) (by decide +kernel)
theorem w_609 : Cond.instanceMethod yST_startsWith2 ∈ Wd := wd_t (List.mem_append_right _ (List.mem_append_right _ (List.mem_of_getElem? (i := 129) (by decide +kernel)))) (by decide +kernel)
theorem w_610 : Cond.selects RST yST_startsWith2 yST_startsWith2 ∈ Wd := wd_t (List.mem_append_right _ (List.mem_append_right _ (List.mem_of_getElem? (i := 130) (by decide +kernel)))) (by decide +kernel)
theorem w_611 : Cond.code yST_startsWith2 prog_15_method_75_code 8 (some .boolean) ∈ Wd := wd_t (List.mem_append_right _ (List.mem_append_right _ (List.mem_of_getElem? (i := 131) (by decide +kernel)))) (by decide +kernel)
theorem w_612 : Cond.methodLink RST 607 yAS_mismatch ∈ Wd := wd_t (List.mem_append_right _ (List.mem_append_right _ (List.mem_of_getElem? (i := 132) (by decide +kernel)))) (by decide +kernel)
theorem w_613 : Cond.static yAS_mismatch ∈ Wd := wd_t (List.mem_append_right _ (List.mem_append_right _ (List.mem_of_getElem? (i := 133) (by decide +kernel)))) (by decide +kernel)
theorem w_614 : Cond.code yAS_mismatch prog_20_method_14_code 8 (some .int) ∈ Wd := wd_t (List.mem_append_right _ (List.mem_append_right _ (List.mem_of_getElem? (i := 134) (by decide +kernel)))) (by decide +kernel)
theorem w_615 : Cond.fieldLink RAS 129 "jdk/internal/util/ArraysSupport" "LOG2_ARRAY_BYTE_INDEX_SCALE" "I" ∈ Wd := wd_t (List.mem_append_right _ (List.mem_append_right _ (List.mem_of_getElem? (i := 135) (by decide +kernel)))) (by decide +kernel)
theorem a_616 : Cond.laysStatic "jdk/internal/util/ArraysSupport" "LOG2_ARRAY_BYTE_INDEX_SCALE" "I" ∈ tables_1 := List.mem_append_right _ (List.mem_append_right _ (List.mem_of_getElem? (i := 136) (by decide +kernel)))
theorem w_617 : Cond.methodLink RAS 122 yAS_vectorizedMismatch ∈ Wd := wd_t (List.mem_append_right _ (List.mem_append_right _ (List.mem_of_getElem? (i := 137) (by decide +kernel)))) (by decide +kernel)
theorem w_618 : Cond.static yAS_vectorizedMismatch ∈ Wd := wd_t (List.mem_append_right _ (List.mem_append_right _ (List.mem_of_getElem? (i := 138) (by decide +kernel)))) (by decide +kernel)
theorem w_619 : Cond.code yAS_vectorizedMismatch prog_20_method_3_code 19 (some .int) ∈ Wd := wd_t (List.mem_append_right _ (List.mem_append_right _ (List.mem_of_getElem? (i := 139) (by decide +kernel)))) (by decide +kernel)
theorem w_620 : Cond.fieldLink RAS 20 "jdk/internal/util/ArraysSupport" "LOG2_ARRAY_LONG_INDEX_SCALE" "I" ∈ Wd := wd_t (List.mem_append_right _ (List.mem_append_right _ (List.mem_of_getElem? (i := 140) (by decide +kernel)))) (by decide +kernel)
theorem a_621 : Cond.laysStatic "jdk/internal/util/ArraysSupport" "LOG2_ARRAY_LONG_INDEX_SCALE" "I" ∈ tables_1 := List.mem_append_right _ (List.mem_append_right _ (List.mem_of_getElem? (i := 141) (by decide +kernel)))
theorem w_622 : Cond.fieldLink RAS 26 "jdk/internal/util/ArraysSupport" "U" "Ljdk/internal/misc/Unsafe;" ∈ Wd := wd_t (List.mem_append_right _ (List.mem_append_right _ (List.mem_of_getElem? (i := 142) (by decide +kernel)))) (by decide +kernel)
theorem a_623 : Cond.laysStatic "jdk/internal/util/ArraysSupport" "U" "Ljdk/internal/misc/Unsafe;" ∈ tables_1 := List.mem_append_right _ (List.mem_append_right _ (List.mem_of_getElem? (i := 143) (by decide +kernel)))
theorem w_624 : Cond.fieldLink RAS 36 "jdk/internal/util/ArraysSupport" "BIG_ENDIAN" "Z" ∈ Wd := wd_t (List.mem_append_right _ (List.mem_append_right _ (List.mem_of_getElem? (i := 144) (by decide +kernel)))) (by decide +kernel)
theorem a_625 : Cond.laysStatic "jdk/internal/util/ArraysSupport" "BIG_ENDIAN" "Z" ∈ tables_1 := List.mem_append_right _ (List.mem_append_right _ (List.mem_of_getElem? (i := 145) (by decide +kernel)))
theorem w_626 : Cond.methodLink RAS 40 yLO_numberOfLeadingZeros ∈ Wd := wd_t (List.mem_append_right _ (List.mem_append_right _ (List.mem_of_getElem? (i := 146) (by decide +kernel)))) (by decide +kernel)
theorem w_627 : Cond.static yLO_numberOfLeadingZeros ∈ Wd := wd_t (List.mem_append_right _ (List.mem_append_right _ (List.mem_of_getElem? (i := 147) (by decide +kernel)))) (by decide +kernel)
theorem w_628 : Cond.code yLO_numberOfLeadingZeros prog_13_method_48_code 3 (some .int) ∈ Wd := wd_t (List.mem_append_right _ (List.mem_append_right _ (List.mem_of_getElem? (i := 148) (by decide +kernel)))) (by decide +kernel)
theorem w_629 : Cond.methodLink RLO 308 yIN_numberOfLeadingZeros ∈ Wd := wd_t (List.mem_append_right _ (List.mem_append_right _ (List.mem_of_getElem? (i := 149) (by decide +kernel)))) (by decide +kernel)
theorem w_630 : Cond.static yIN_numberOfLeadingZeros ∈ Wd := wd_t (List.mem_append_right _ (List.mem_append_right _ (List.mem_of_getElem? (i := 150) (by decide +kernel)))) (by decide +kernel)
theorem w_631 : Cond.code yIN_numberOfLeadingZeros prog_12_method_47_code 2 (some .int) ∈ Wd := wd_t (List.mem_append_right _ (List.mem_append_right _ (List.mem_of_getElem? (i := 151) (by decide +kernel)))) (by decide +kernel)
theorem w_632 : Cond.constant RIN 264 65536 ∈ Wd := wd_t (List.mem_append_right _ (List.mem_append_right _ (List.mem_of_getElem? (i := 152) (by decide +kernel)))) (by decide +kernel)
theorem w_633 : Cond.fieldLink RAS 46 "jdk/internal/util/ArraysSupport" "LOG2_BYTE_BIT_SIZE" "I" ∈ Wd := wd_t (List.mem_append_right _ (List.mem_append_right _ (List.mem_of_getElem? (i := 153) (by decide +kernel)))) (by decide +kernel)
theorem a_634 : Cond.laysStatic "jdk/internal/util/ArraysSupport" "LOG2_BYTE_BIT_SIZE" "I" ∈ tables_1 := List.mem_append_right _ (List.mem_append_right _ (List.mem_of_getElem? (i := 154) (by decide +kernel)))
theorem w_635 : Cond.methodLink RAS 49 yLO_numberOfTrailingZeros ∈ Wd := wd_t (List.mem_append_right _ (List.mem_append_right _ (List.mem_of_getElem? (i := 155) (by decide +kernel)))) (by decide +kernel)
theorem w_636 : Cond.static yLO_numberOfTrailingZeros ∈ Wd := wd_t (List.mem_append_right _ (List.mem_append_right _ (List.mem_of_getElem? (i := 156) (by decide +kernel)))) (by decide +kernel)
theorem w_637 : Cond.code yLO_numberOfTrailingZeros prog_13_method_49_code 3 (some .int) ∈ Wd := wd_t (List.mem_append_right _ (List.mem_append_right _ (List.mem_of_getElem? (i := 157) (by decide +kernel)))) (by decide +kernel)
theorem w_638 : Cond.methodLink RLO 311 yIN_numberOfTrailingZeros ∈ Wd := wd_t (List.mem_append_right _ (List.mem_append_right _ (List.mem_of_getElem? (i := 158) (by decide +kernel)))) (by decide +kernel)
theorem w_639 : Cond.static yIN_numberOfTrailingZeros ∈ Wd := wd_t (List.mem_append_right _ (List.mem_append_right _ (List.mem_of_getElem? (i := 159) (by decide +kernel)))) (by decide +kernel)
theorem w_640 : Cond.code yIN_numberOfTrailingZeros prog_12_method_48_code 2 (some .int) ∈ Wd := wd_t (List.mem_append_right _ (List.mem_append_right _ (List.mem_of_getElem? (i := 160) (by decide +kernel)))) (by decide +kernel)
theorem w_641 : Cond.fieldLink RAS 51 "jdk/internal/util/ArraysSupport" "LOG2_ARRAY_INT_INDEX_SCALE" "I" ∈ Wd := wd_t (List.mem_append_right _ (List.mem_append_right _ (List.mem_of_getElem? (i := 161) (by decide +kernel)))) (by decide +kernel)
theorem a_642 : Cond.laysStatic "jdk/internal/util/ArraysSupport" "LOG2_ARRAY_INT_INDEX_SCALE" "I" ∈ tables_1 := List.mem_append_right _ (List.mem_append_right _ (List.mem_of_getElem? (i := 162) (by decide +kernel)))
theorem w_643 : Cond.methodLink RAS 58 yIN_numberOfLeadingZeros ∈ Wd := wd_t (List.mem_append_right _ (List.mem_append_right _ (List.mem_of_getElem? (i := 163) (by decide +kernel)))) (by decide +kernel)
theorem w_644 : Cond.methodLink RAS 11 yIN_numberOfTrailingZeros ∈ Wd := wd_t (List.mem_append_right _ (List.mem_append_right _ (List.mem_of_getElem? (i := 164) (by decide +kernel)))) (by decide +kernel)
theorem w_645 : Cond.methodLink RST 360 ySU_getChar ∈ Wd := wd_t (List.mem_append_right _ (List.mem_append_right _ (List.mem_of_getElem? (i := 165) (by decide +kernel)))) (by decide +kernel)
theorem w_651 : Cond.methodLink RMD 138 yMD_signLength ∈ Wd := wd_t (List.mem_append_right _ (List.mem_append_right _ (List.mem_of_getElem? (i := 171) (by decide +kernel)))) (by decide +kernel)
theorem w_652 : Cond.static yMD_signLength ∈ Wd := wd_t (List.mem_append_right _ (List.mem_append_right _ (List.mem_of_getElem? (i := 172) (by decide +kernel)))) (by decide +kernel)
theorem w_653 : Cond.code yMD_signLength prog_7_method_14_code 1 (some .int) ∈ Wd := wd_t (List.mem_append_right _ (List.mem_append_right _ (List.mem_of_getElem? (i := 173) (by decide +kernel)))) (by decide +kernel)
theorem w_655 : Cond.methodLink RMD 173 yMD_in ∈ Wd := wd_t (List.mem_append_right _ (List.mem_append_right _ (List.mem_of_getElem? (i := 175) (by decide +kernel)))) (by decide +kernel)
theorem w_656 : Cond.static yMD_in ∈ Wd := wd_t (List.mem_append_right _ (List.mem_append_right _ (List.mem_of_getElem? (i := 176) (by decide +kernel)))) (by decide +kernel)
theorem w_657 : Cond.code yMD_in prog_7_method_20_code 5 (some .boolean) ∈ Wd := wd_t (List.mem_append_right _ (List.mem_append_right _ (List.mem_of_getElem? (i := 177) (by decide +kernel)))) (by decide +kernel)
theorem w_658 : Cond.methodLink RMD 155 yMD_test ∈ Wd := wd_t (List.mem_append_right _ (List.mem_append_right _ (List.mem_of_getElem? (i := 178) (by decide +kernel)))) (by decide +kernel)
theorem w_659 : Cond.static yMD_test ∈ Wd := wd_t (List.mem_append_right _ (List.mem_append_right _ (List.mem_of_getElem? (i := 179) (by decide +kernel)))) (by decide +kernel)
theorem w_660 : Cond.code yMD_test prog_7_method_19_code 5 (some .boolean) ∈ Wd := wd_t (List.mem_append_right _ (List.mem_append_right _ (List.mem_of_getElem? (i := 180) (by decide +kernel)))) (by decide +kernel)
theorem w_661 : Cond.methodLink RMD 151 yMD_below ∈ Wd := wd_t (List.mem_append_right _ (List.mem_append_right _ (List.mem_of_getElem? (i := 181) (by decide +kernel)))) (by decide +kernel)
theorem w_662 : Cond.static yMD_below ∈ Wd := wd_t (List.mem_append_right _ (List.mem_append_right _ (List.mem_of_getElem? (i := 182) (by decide +kernel)))) (by decide +kernel)
theorem w_663 : Cond.code yMD_below prog_7_method_18_code 4 (some .boolean) ∈ Wd := wd_t (List.mem_append_right _ (List.mem_append_right _ (List.mem_of_getElem? (i := 183) (by decide +kernel)))) (by decide +kernel)
theorem w_664 : Cond.methodLink RLW 48 yMD_clear ∈ Wd := wd_t (List.mem_append_right _ (List.mem_append_right _ (List.mem_of_getElem? (i := 184) (by decide +kernel)))) (by decide +kernel)
theorem w_665 : Cond.instanceMethod yMD_clear ∈ Wd := wd_t (List.mem_append_right _ (List.mem_append_right _ (List.mem_of_getElem? (i := 185) (by decide +kernel)))) (by decide +kernel)
theorem w_666 : Cond.selects RMD yMD_clear yMD_clear ∈ Wd := wd_t (List.mem_append_right _ (List.mem_append_right _ (List.mem_of_getElem? (i := 186) (by decide +kernel)))) (by decide +kernel)
theorem w_667 : Cond.code yMD_clear prog_7_method_27_code 2 (some .int) ∈ Wd := wd_t (List.mem_append_right _ (List.mem_append_right _ (List.mem_of_getElem? (i := 187) (by decide +kernel)))) (by decide +kernel)
theorem w_668 : Cond.fieldLink RSG 47 "VersionRanges$Sign" "hasBelow" "Z" ∈ Wd := wd_t (List.mem_append_right _ (List.mem_append_right _ (List.mem_of_getElem? (i := 188) (by decide +kernel)))) (by decide +kernel)
theorem w_669 : Cond.fieldLink RSG 54 "VersionRanges$Sign" "hasAbove" "Z" ∈ Wd := wd_t (List.mem_append_right _ (List.mem_append_right _ (List.mem_of_getElem? (i := 189) (by decide +kernel)))) (by decide +kernel)
theorem w_670 : Cond.fieldLink RSG 51 "VersionRanges$Sign" "hasSame" "Z" ∈ Wd := wd_t (List.mem_append_right _ (List.mem_append_right _ (List.mem_of_getElem? (i := 190) (by decide +kernel)))) (by decide +kernel)
theorem p_0 : Cond.selects RTP yTP_hasRoomFor yTP_hasRoomFor ∈ Wd := wd_p (List.mem_of_getElem? (i := 0) (by decide +kernel)) (by decide +kernel)
theorem p_1 : Cond.selects RTP yTP_addFour yTP_addFour ∈ Wd := wd_p (List.mem_of_getElem? (i := 1) (by decide +kernel)) (by decide +kernel)
theorem p_2 : Cond.selects RVR yVR_addVersionOfTape yVR_addVersionOfTape ∈ Wd := wd_p (List.mem_of_getElem? (i := 2) (by decide +kernel)) (by decide +kernel)
theorem p_3 : Cond.selects RTP yTP_splitWords yTP_splitWords ∈ Wd := wd_p (List.mem_of_getElem? (i := 3) (by decide +kernel)) (by decide +kernel)
theorem p_4 : Cond.selects RTP yTP_enterWord yTP_enterWord ∈ Wd := wd_p (List.mem_of_getElem? (i := 4) (by decide +kernel)) (by decide +kernel)
theorem p_5 : Cond.selects RVE yVE_readFrom yVE_readFrom ∈ Wd := wd_p (List.mem_of_getElem? (i := 5) (by decide +kernel)) (by decide +kernel)
theorem p_6 : Cond.selects RTP yTP_skip yTP_skip ∈ Wd := wd_p (List.mem_of_getElem? (i := 6) (by decide +kernel)) (by decide +kernel)
theorem p_7 : Cond.selects RTP yTP_readNumber yTP_readNumber ∈ Wd := wd_p (List.mem_of_getElem? (i := 7) (by decide +kernel)) (by decide +kernel)
theorem p_8 : Cond.selects RTP yTP_numberSince yTP_numberSince ∈ Wd := wd_p (List.mem_of_getElem? (i := 8) (by decide +kernel)) (by decide +kernel)
theorem p_9 : Cond.selects RVE yVE_dropPre yVE_dropPre ∈ Wd := wd_p (List.mem_of_getElem? (i := 9) (by decide +kernel)) (by decide +kernel)
theorem p_10 : Cond.selects RTP yTP_isAtStop yTP_isAtStop ∈ Wd := wd_p (List.mem_of_getElem? (i := 10) (by decide +kernel)) (by decide +kernel)
theorem p_11 : Cond.selects RVE yVE_readPre yVE_readPre ∈ Wd := wd_p (List.mem_of_getElem? (i := 11) (by decide +kernel)) (by decide +kernel)
theorem p_12 : Cond.selects RTP yTP_readMark yTP_readMark ∈ Wd := wd_p (List.mem_of_getElem? (i := 12) (by decide +kernel)) (by decide +kernel)
theorem p_13 : Cond.selects RVE yVE_copyFrom yVE_copyFrom ∈ Wd := wd_p (List.mem_of_getElem? (i := 13) (by decide +kernel)) (by decide +kernel)
theorem p_14 : Cond.selects RVR yVR_isListed yVR_isListed ∈ Wd := wd_p (List.mem_of_getElem? (i := 14) (by decide +kernel)) (by decide +kernel)
theorem p_15 : Cond.selects RVE yVE_orderTo yVE_orderTo ∈ Wd := wd_p (List.mem_of_getElem? (i := 15) (by decide +kernel)) (by decide +kernel)
theorem p_16 : Cond.selects RVE yVE_number yVE_number ∈ Wd := wd_p (List.mem_of_getElem? (i := 16) (by decide +kernel)) (by decide +kernel)
theorem p_17 : Cond.selects RVR yVR_bitsInRangeOfTape yVR_bitsInRangeOfTape ∈ Wd := wd_p (List.mem_of_getElem? (i := 17) (by decide +kernel)) (by decide +kernel)
theorem p_18 : Cond.selects RVR yVR_allBits yVR_allBits ∈ Wd := wd_p (List.mem_of_getElem? (i := 18) (by decide +kernel)) (by decide +kernel)
theorem p_19 : Cond.selects RTP yTP_isAtOrWord yTP_isAtOrWord ∈ Wd := wd_p (List.mem_of_getElem? (i := 19) (by decide +kernel)) (by decide +kernel)
theorem p_20 : Cond.selects RRT yRT_readFrom yRT_readFrom ∈ Wd := wd_p (List.mem_of_getElem? (i := 20) (by decide +kernel)) (by decide +kernel)
theorem p_21 : Cond.selects RRT yRT_setCeiling yRT_setCeiling ∈ Wd := wd_p (List.mem_of_getElem? (i := 21) (by decide +kernel)) (by decide +kernel)
theorem p_22 : Cond.selects RVE yVE_setNumbers yVE_setNumbers ∈ Wd := wd_p (List.mem_of_getElem? (i := 22) (by decide +kernel)) (by decide +kernel)
theorem p_23 : Cond.selects RVR yVR_bitsOfTest yVR_bitsOfTest ∈ Wd := wd_p (List.mem_of_getElem? (i := 23) (by decide +kernel)) (by decide +kernel)
theorem p_24 : Cond.selects RRT yRT_holdsFor yRT_holdsFor ∈ Wd := wd_p (List.mem_of_getElem? (i := 24) (by decide +kernel)) (by decide +kernel)
theorem p_25 : Cond.selects RSG ySG_hasOrder ySG_hasOrder ∈ Wd := wd_p (List.mem_of_getElem? (i := 25) (by decide +kernel)) (by decide +kernel)
theorem p_26 : Cond.selects RMD yMD_put yMD_put ∈ Wd := wd_p (List.mem_of_getElem? (i := 26) (by decide +kernel)) (by decide +kernel)
theorem p_27 : Cond.selects RMD yMD_readWords yMD_readWords ∈ Wd := wd_p (List.mem_of_getElem? (i := 27) (by decide +kernel)) (by decide +kernel)
theorem p_28 : Cond.selects RMD yMD_is yMD_is ∈ Wd := wd_p (List.mem_of_getElem? (i := 28) (by decide +kernel)) (by decide +kernel)
theorem p_29 : Cond.selects RMD yMD_range yMD_range ∈ Wd := wd_p (List.mem_of_getElem? (i := 29) (by decide +kernel)) (by decide +kernel)
theorem p_30 : Cond.selects RMD yMD_ends yMD_ends ∈ Wd := wd_p (List.mem_of_getElem? (i := 30) (by decide +kernel)) (by decide +kernel)
theorem p_31 : Cond.selects RMD yMD_here yMD_here ∈ Wd := wd_p (List.mem_of_getElem? (i := 31) (by decide +kernel)) (by decide +kernel)
theorem inRT : ∀ w ∈ u_ws RRT TRT 3, w ∈ Wd := by
  intro w hw
  obtain ⟨k, hk, rfl⟩ := List.mem_map.mp hw
  have hk := List.mem_range.mp hk
  rcases (show k = 0 ∨ k = 1 ∨ k = 2 by omega) with rfl | rfl | rfl
  · exact w_87
  · exact w_89
  · exact w_91
theorem inTP : ∀ w ∈ u_ws RTP TTP 6, w ∈ Wd := by
  intro w hw
  obtain ⟨k, hk, rfl⟩ := List.mem_map.mp hw
  have hk := List.mem_range.mp hk
  rcases (show k = 0 ∨ k = 1 ∨ k = 2 ∨ k = 3 ∨ k = 4 ∨ k = 5 by omega) with rfl | rfl | rfl | rfl | rfl | rfl
  · exact w_43
  · exact w_45
  · exact w_47
  · exact w_49
  · exact w_51
  · exact w_53
theorem inVE : ∀ w ∈ u_ws RVE TVE 2, w ∈ Wd := by
  intro w hw
  obtain ⟨k, hk, rfl⟩ := List.mem_map.mp hw
  have hk := List.mem_range.mp hk
  rcases (show k = 0 ∨ k = 1 by omega) with rfl | rfl
  · exact w_68
  · exact w_70
theorem inVR : ∀ w ∈ u_ws RVR TVR 5, w ∈ Wd := by
  intro w hw
  obtain ⟨k, hk, rfl⟩ := List.mem_map.mp hw
  have hk := List.mem_range.mp hk
  rcases (show k = 0 ∨ k = 1 ∨ k = 2 ∨ k = 3 ∨ k = 4 by omega) with rfl | rfl | rfl | rfl | rfl
  · exact w_99
  · exact w_101
  · exact w_103
  · exact w_105
  · exact w_107
theorem inMD : ∀ w ∈ u_ws RMD TMD 7, w ∈ Wd := by
  intro w hw
  obtain ⟨k, hk, rfl⟩ := List.mem_map.mp hw
  have hk := List.mem_range.mp hk
  rcases (show k = 0 ∨ k = 1 ∨ k = 2 ∨ k = 3 ∨ k = 4 ∨ k = 5 ∨ k = 6 by omega) with rfl | rfl | rfl | rfl | rfl | rfl | rfl
  · exact w_298
  · exact w_300
  · exact w_302
  · exact w_304
  · exact w_306
  · exact w_308
  · exact w_310
theorem inMV : ∀ w ∈ u_ws RMV TMV 3, w ∈ Wd := by
  intro w hw
  obtain ⟨k, hk, rfl⟩ := List.mem_map.mp hw
  have hk := List.mem_range.mp hk
  rcases (show k = 0 ∨ k = 1 ∨ k = 2 by omega) with rfl | rfl | rfl
  · exact w_423
  · exact w_425
  · exact w_427
theorem inMR : ∀ w ∈ u_ws RMR TMR 4, w ∈ Wd := by
  intro w hw
  obtain ⟨k, hk, rfl⟩ := List.mem_map.mp hw
  have hk := List.mem_range.mp hk
  rcases (show k = 0 ∨ k = 1 ∨ k = 2 ∨ k = 3 by omega) with rfl | rfl | rfl | rfl
  · exact w_569
  · exact w_571
  · exact w_573
  · exact w_575
theorem inST : ∀ w ∈ u_ws RST TST 4, w ∈ Wd := by
  intro w hw
  obtain ⟨k, hk, rfl⟩ := List.mem_map.mp hw
  have hk := List.mem_range.mp hk
  rcases (show k = 0 ∨ k = 1 ∨ k = 2 ∨ k = 3 by omega) with rfl | rfl | rfl | rfl
  · exact w_400
  · exact w_402
  · exact w_404
  · exact w_406
end
section
theorem dSG_hasOrder_0 : decode cSG_hasOrder 0 = .ok (.iload_n 1, 1) := by decide +kernel
theorem dSG_hasOrder_1 : decode cSG_hasOrder 1 = .ok (.ifCond .ge 10, 3) := by decide +kernel
theorem dSG_hasOrder_4 : decode cSG_hasOrder 4 = .ok (.aload_n 0, 1) := by decide +kernel
theorem dSG_hasOrder_5 : decode cSG_hasOrder 5 = .ok (.getfield 47, 3) := by decide +kernel
theorem dSG_hasOrder_8 : decode cSG_hasOrder 8 = .ok (.goto 18, 3) := by decide +kernel
theorem dSG_hasOrder_11 : decode cSG_hasOrder 11 = .ok (.iload_n 1, 1) := by decide +kernel
theorem dSG_hasOrder_12 : decode cSG_hasOrder 12 = .ok (.ifCond .le 10, 3) := by decide +kernel
theorem dSG_hasOrder_15 : decode cSG_hasOrder 15 = .ok (.aload_n 0, 1) := by decide +kernel
theorem dSG_hasOrder_16 : decode cSG_hasOrder 16 = .ok (.getfield 54, 3) := by decide +kernel
theorem dSG_hasOrder_19 : decode cSG_hasOrder 19 = .ok (.goto 7, 3) := by decide +kernel
theorem dSG_hasOrder_22 : decode cSG_hasOrder 22 = .ok (.aload_n 0, 1) := by decide +kernel
theorem dSG_hasOrder_23 : decode cSG_hasOrder 23 = .ok (.getfield 51, 3) := by decide +kernel
theorem dSG_hasOrder_26 : decode cSG_hasOrder 26 = .ok (.ireturn, 1) := by decide +kernel
theorem dTP_init_0 : decode cTP_init 0 = .ok (.aload_n 0, 1) := by decide +kernel
theorem dTP_init_1 : decode cTP_init 1 = .ok (.invokespecial 1, 3) := by decide +kernel
theorem dTP_init_4 : decode cTP_init 4 = .ok (.aload_n 0, 1) := by decide +kernel
theorem dTP_init_5 : decode cTP_init 5 = .ok (.sipush 400, 3) := by decide +kernel
theorem dTP_init_8 : decode cTP_init 8 = .ok (.newarray .byte, 2) := by decide +kernel
theorem dTP_init_10 : decode cTP_init 10 = .ok (.putfield 9, 3) := by decide +kernel
theorem dTP_init_13 : decode cTP_init 13 = .ok (.aload_n 0, 1) := by decide +kernel
theorem dTP_init_14 : decode cTP_init 14 = .ok (.sipush 200, 3) := by decide +kernel
theorem dTP_init_17 : decode cTP_init 17 = .ok (.newarray .int, 2) := by decide +kernel
theorem dTP_init_19 : decode cTP_init 19 = .ok (.putfield 13, 3) := by decide +kernel
theorem dTP_init_22 : decode cTP_init 22 = .ok (.aload_n 0, 1) := by decide +kernel
theorem dTP_init_23 : decode cTP_init 23 = .ok (.sipush 200, 3) := by decide +kernel
theorem dTP_init_26 : decode cTP_init 26 = .ok (.newarray .int, 2) := by decide +kernel
theorem dTP_init_28 : decode cTP_init 28 = .ok (.putfield 17, 3) := by decide +kernel
theorem dTP_init_31 : decode cTP_init 31 = .ok (.aload_n 0, 1) := by decide +kernel
theorem dTP_init_32 : decode cTP_init 32 = .ok (.iconst 0, 1) := by decide +kernel
theorem dTP_init_33 : decode cTP_init 33 = .ok (.putfield 20, 3) := by decide +kernel
theorem dTP_init_36 : decode cTP_init 36 = .ok (.aload_n 0, 1) := by decide +kernel
theorem dTP_init_37 : decode cTP_init 37 = .ok (.iconst 0, 1) := by decide +kernel
theorem dTP_init_38 : decode cTP_init 38 = .ok (.putfield 24, 3) := by decide +kernel
theorem dTP_init_41 : decode cTP_init 41 = .ok (.aload_n 0, 1) := by decide +kernel
theorem dTP_init_42 : decode cTP_init 42 = .ok (.iconst 0, 1) := by decide +kernel
theorem dTP_init_43 : decode cTP_init 43 = .ok (.putfield 27, 3) := by decide +kernel
theorem dTP_init_46 : decode cTP_init 46 = .ok (.return_, 1) := by decide +kernel
theorem dTP_hasRoomFor_0 : decode cTP_hasRoomFor 0 = .ok (.aload_n 0, 1) := by decide +kernel
theorem dTP_hasRoomFor_1 : decode cTP_hasRoomFor 1 = .ok (.getfield 20, 3) := by decide +kernel
theorem dTP_hasRoomFor_4 : decode cTP_hasRoomFor 4 = .ok (.iload_n 1, 1) := by decide +kernel
theorem dTP_hasRoomFor_5 : decode cTP_hasRoomFor 5 = .ok (.iadd, 1) := by decide +kernel
theorem dTP_hasRoomFor_6 : decode cTP_hasRoomFor 6 = .ok (.sipush 400, 3) := by decide +kernel
theorem dTP_hasRoomFor_9 : decode cTP_hasRoomFor 9 = .ok (.if_icmp .gt 7, 3) := by decide +kernel
theorem dTP_hasRoomFor_12 : decode cTP_hasRoomFor 12 = .ok (.iconst 1, 1) := by decide +kernel
theorem dTP_hasRoomFor_13 : decode cTP_hasRoomFor 13 = .ok (.goto 4, 3) := by decide +kernel
theorem dTP_hasRoomFor_16 : decode cTP_hasRoomFor 16 = .ok (.iconst 0, 1) := by decide +kernel
theorem dTP_hasRoomFor_17 : decode cTP_hasRoomFor 17 = .ok (.ireturn, 1) := by decide +kernel
theorem dTP_addFour_0 : decode cTP_addFour 0 = .ok (.bipush 24, 2) := by decide +kernel
theorem dTP_addFour_2 : decode cTP_addFour 2 = .ok (.istore_n 2, 1) := by decide +kernel
theorem dTP_addFour_3 : decode cTP_addFour 3 = .ok (.iload_n 2, 1) := by decide +kernel
theorem dTP_addFour_4 : decode cTP_addFour 4 = .ok (.ifCond .lt 32, 3) := by decide +kernel
theorem dTP_addFour_7 : decode cTP_addFour 7 = .ok (.aload_n 0, 1) := by decide +kernel
theorem dTP_addFour_8 : decode cTP_addFour 8 = .ok (.getfield 9, 3) := by decide +kernel
theorem dTP_addFour_11 : decode cTP_addFour 11 = .ok (.aload_n 0, 1) := by decide +kernel
theorem dTP_addFour_12 : decode cTP_addFour 12 = .ok (.getfield 20, 3) := by decide +kernel
theorem dTP_addFour_15 : decode cTP_addFour 15 = .ok (.iload_n 1, 1) := by decide +kernel
theorem dTP_addFour_16 : decode cTP_addFour 16 = .ok (.iload_n 2, 1) := by decide +kernel
theorem dTP_addFour_17 : decode cTP_addFour 17 = .ok (.ishr, 1) := by decide +kernel
theorem dTP_addFour_18 : decode cTP_addFour 18 = .ok (.i2b, 1) := by decide +kernel
theorem dTP_addFour_19 : decode cTP_addFour 19 = .ok (.bastore, 1) := by decide +kernel
theorem dTP_addFour_20 : decode cTP_addFour 20 = .ok (.aload_n 0, 1) := by decide +kernel
theorem dTP_addFour_21 : decode cTP_addFour 21 = .ok (.dup, 1) := by decide +kernel
theorem dTP_addFour_22 : decode cTP_addFour 22 = .ok (.getfield 20, 3) := by decide +kernel
theorem dTP_addFour_25 : decode cTP_addFour 25 = .ok (.iconst 1, 1) := by decide +kernel
theorem dTP_addFour_26 : decode cTP_addFour 26 = .ok (.iadd, 1) := by decide +kernel
theorem dTP_addFour_27 : decode cTP_addFour 27 = .ok (.putfield 20, 3) := by decide +kernel
theorem dTP_addFour_30 : decode cTP_addFour 30 = .ok (.iinc 2 (-8), 3) := by decide +kernel
theorem dTP_addFour_33 : decode cTP_addFour 33 = .ok (.goto (-30), 3) := by decide +kernel
theorem dTP_addFour_36 : decode cTP_addFour 36 = .ok (.return_, 1) := by decide +kernel
theorem dTP_splitWords_0 : decode cTP_splitWords 0 = .ok (.iconst 0, 1) := by decide +kernel
theorem dTP_splitWords_1 : decode cTP_splitWords 1 = .ok (.istore_n 1, 1) := by decide +kernel
theorem dTP_splitWords_2 : decode cTP_splitWords 2 = .ok (.iconst 0, 1) := by decide +kernel
theorem dTP_splitWords_3 : decode cTP_splitWords 3 = .ok (.istore_n 2, 1) := by decide +kernel
theorem dTP_splitWords_4 : decode cTP_splitWords 4 = .ok (.iload_n 2, 1) := by decide +kernel
theorem dTP_splitWords_5 : decode cTP_splitWords 5 = .ok (.aload_n 0, 1) := by decide +kernel
theorem dTP_splitWords_6 : decode cTP_splitWords 6 = .ok (.getfield 20, 3) := by decide +kernel
theorem dTP_splitWords_9 : decode cTP_splitWords 9 = .ok (.if_icmp .ge 61, 3) := by decide +kernel
theorem dTP_splitWords_12 : decode cTP_splitWords 12 = .ok (.aload_n 0, 1) := by decide +kernel
theorem dTP_splitWords_13 : decode cTP_splitWords 13 = .ok (.getfield 9, 3) := by decide +kernel
theorem dTP_splitWords_16 : decode cTP_splitWords 16 = .ok (.iload_n 2, 1) := by decide +kernel
theorem dTP_splitWords_17 : decode cTP_splitWords 17 = .ok (.baload, 1) := by decide +kernel
theorem dTP_splitWords_18 : decode cTP_splitWords 18 = .ok (.bipush 32, 2) := by decide +kernel
theorem dTP_splitWords_20 : decode cTP_splitWords 20 = .ok (.if_icmp .ne 6, 3) := by decide +kernel
theorem dTP_splitWords_23 : decode cTP_splitWords 23 = .ok (.goto 41, 3) := by decide +kernel
theorem dTP_splitWords_26 : decode cTP_splitWords 26 = .ok (.iload_n 2, 1) := by decide +kernel
theorem dTP_splitWords_27 : decode cTP_splitWords 27 = .ok (.ifCond .eq 16, 3) := by decide +kernel
theorem dTP_splitWords_30 : decode cTP_splitWords 30 = .ok (.aload_n 0, 1) := by decide +kernel
theorem dTP_splitWords_31 : decode cTP_splitWords 31 = .ok (.getfield 9, 3) := by decide +kernel
theorem dTP_splitWords_34 : decode cTP_splitWords 34 = .ok (.iload_n 2, 1) := by decide +kernel
theorem dTP_splitWords_35 : decode cTP_splitWords 35 = .ok (.iconst 1, 1) := by decide +kernel
theorem dTP_splitWords_36 : decode cTP_splitWords 36 = .ok (.isub, 1) := by decide +kernel
theorem dTP_splitWords_37 : decode cTP_splitWords 37 = .ok (.baload, 1) := by decide +kernel
theorem dTP_splitWords_38 : decode cTP_splitWords 38 = .ok (.bipush 32, 2) := by decide +kernel
theorem dTP_splitWords_40 : decode cTP_splitWords 40 = .ok (.if_icmp .ne 13, 3) := by decide +kernel
theorem dTP_splitWords_43 : decode cTP_splitWords 43 = .ok (.aload_n 0, 1) := by decide +kernel
theorem dTP_splitWords_44 : decode cTP_splitWords 44 = .ok (.getfield 13, 3) := by decide +kernel
theorem dTP_splitWords_47 : decode cTP_splitWords 47 = .ok (.iload_n 1, 1) := by decide +kernel
theorem dTP_splitWords_48 : decode cTP_splitWords 48 = .ok (.iload_n 2, 1) := by decide +kernel
theorem dTP_splitWords_49 : decode cTP_splitWords 49 = .ok (.iastore, 1) := by decide +kernel
theorem dTP_splitWords_50 : decode cTP_splitWords 50 = .ok (.iinc 1 1, 3) := by decide +kernel
theorem dTP_splitWords_53 : decode cTP_splitWords 53 = .ok (.aload_n 0, 1) := by decide +kernel
theorem dTP_splitWords_54 : decode cTP_splitWords 54 = .ok (.getfield 17, 3) := by decide +kernel
theorem dTP_splitWords_57 : decode cTP_splitWords 57 = .ok (.iload_n 1, 1) := by decide +kernel
theorem dTP_splitWords_58 : decode cTP_splitWords 58 = .ok (.iconst 1, 1) := by decide +kernel
theorem dTP_splitWords_59 : decode cTP_splitWords 59 = .ok (.isub, 1) := by decide +kernel
theorem dTP_splitWords_60 : decode cTP_splitWords 60 = .ok (.iload_n 2, 1) := by decide +kernel
theorem dTP_splitWords_61 : decode cTP_splitWords 61 = .ok (.iconst 1, 1) := by decide +kernel
theorem dTP_splitWords_62 : decode cTP_splitWords 62 = .ok (.iadd, 1) := by decide +kernel
theorem dTP_splitWords_63 : decode cTP_splitWords 63 = .ok (.iastore, 1) := by decide +kernel
theorem dTP_splitWords_64 : decode cTP_splitWords 64 = .ok (.iinc 2 1, 3) := by decide +kernel
theorem dTP_splitWords_67 : decode cTP_splitWords 67 = .ok (.goto (-63), 3) := by decide +kernel
theorem dTP_splitWords_70 : decode cTP_splitWords 70 = .ok (.iload_n 1, 1) := by decide +kernel
theorem dTP_splitWords_71 : decode cTP_splitWords 71 = .ok (.ireturn, 1) := by decide +kernel
theorem dTP_enterWord_0 : decode cTP_enterWord 0 = .ok (.aload_n 0, 1) := by decide +kernel
theorem dTP_enterWord_1 : decode cTP_enterWord 1 = .ok (.aload_n 0, 1) := by decide +kernel
theorem dTP_enterWord_2 : decode cTP_enterWord 2 = .ok (.getfield 13, 3) := by decide +kernel
theorem dTP_enterWord_5 : decode cTP_enterWord 5 = .ok (.iload_n 1, 1) := by decide +kernel
theorem dTP_enterWord_6 : decode cTP_enterWord 6 = .ok (.iaload, 1) := by decide +kernel
theorem dTP_enterWord_7 : decode cTP_enterWord 7 = .ok (.putfield 24, 3) := by decide +kernel
theorem dTP_enterWord_10 : decode cTP_enterWord 10 = .ok (.aload_n 0, 1) := by decide +kernel
theorem dTP_enterWord_11 : decode cTP_enterWord 11 = .ok (.aload_n 0, 1) := by decide +kernel
theorem dTP_enterWord_12 : decode cTP_enterWord 12 = .ok (.getfield 17, 3) := by decide +kernel
theorem dTP_enterWord_15 : decode cTP_enterWord 15 = .ok (.iload_n 1, 1) := by decide +kernel
theorem dTP_enterWord_16 : decode cTP_enterWord 16 = .ok (.iaload, 1) := by decide +kernel
theorem dTP_enterWord_17 : decode cTP_enterWord 17 = .ok (.putfield 27, 3) := by decide +kernel
theorem dTP_enterWord_20 : decode cTP_enterWord 20 = .ok (.return_, 1) := by decide +kernel
theorem dTP_isAtStop_0 : decode cTP_isAtStop 0 = .ok (.aload_n 0, 1) := by decide +kernel
theorem dTP_isAtStop_1 : decode cTP_isAtStop 1 = .ok (.getfield 24, 3) := by decide +kernel
theorem dTP_isAtStop_4 : decode cTP_isAtStop 4 = .ok (.aload_n 0, 1) := by decide +kernel
theorem dTP_isAtStop_5 : decode cTP_isAtStop 5 = .ok (.getfield 27, 3) := by decide +kernel
theorem dTP_isAtStop_8 : decode cTP_isAtStop 8 = .ok (.if_icmp .ne 7, 3) := by decide +kernel
theorem dTP_isAtStop_11 : decode cTP_isAtStop 11 = .ok (.iconst 1, 1) := by decide +kernel
theorem dTP_isAtStop_12 : decode cTP_isAtStop 12 = .ok (.goto 4, 3) := by decide +kernel
theorem dTP_isAtStop_15 : decode cTP_isAtStop 15 = .ok (.iconst 0, 1) := by decide +kernel
theorem dTP_isAtStop_16 : decode cTP_isAtStop 16 = .ok (.ireturn, 1) := by decide +kernel
theorem dTP_isAtOrWord_0 : decode cTP_isAtOrWord 0 = .ok (.aload_n 0, 1) := by decide +kernel
theorem dTP_isAtOrWord_1 : decode cTP_isAtOrWord 1 = .ok (.getfield 27, 3) := by decide +kernel
theorem dTP_isAtOrWord_4 : decode cTP_isAtOrWord 4 = .ok (.aload_n 0, 1) := by decide +kernel
theorem dTP_isAtOrWord_5 : decode cTP_isAtOrWord 5 = .ok (.getfield 24, 3) := by decide +kernel
theorem dTP_isAtOrWord_8 : decode cTP_isAtOrWord 8 = .ok (.isub, 1) := by decide +kernel
theorem dTP_isAtOrWord_9 : decode cTP_isAtOrWord 9 = .ok (.iconst 2, 1) := by decide +kernel
theorem dTP_isAtOrWord_10 : decode cTP_isAtOrWord 10 = .ok (.if_icmp .ne 37, 3) := by decide +kernel
theorem dTP_isAtOrWord_13 : decode cTP_isAtOrWord 13 = .ok (.aload_n 0, 1) := by decide +kernel
theorem dTP_isAtOrWord_14 : decode cTP_isAtOrWord 14 = .ok (.getfield 9, 3) := by decide +kernel
theorem dTP_isAtOrWord_17 : decode cTP_isAtOrWord 17 = .ok (.aload_n 0, 1) := by decide +kernel
theorem dTP_isAtOrWord_18 : decode cTP_isAtOrWord 18 = .ok (.getfield 24, 3) := by decide +kernel
theorem dTP_isAtOrWord_21 : decode cTP_isAtOrWord 21 = .ok (.baload, 1) := by decide +kernel
theorem dTP_isAtOrWord_22 : decode cTP_isAtOrWord 22 = .ok (.bipush 124, 2) := by decide +kernel
theorem dTP_isAtOrWord_24 : decode cTP_isAtOrWord 24 = .ok (.if_icmp .ne 23, 3) := by decide +kernel
theorem dTP_isAtOrWord_27 : decode cTP_isAtOrWord 27 = .ok (.aload_n 0, 1) := by decide +kernel
theorem dTP_isAtOrWord_28 : decode cTP_isAtOrWord 28 = .ok (.getfield 9, 3) := by decide +kernel
theorem dTP_isAtOrWord_31 : decode cTP_isAtOrWord 31 = .ok (.aload_n 0, 1) := by decide +kernel
theorem dTP_isAtOrWord_32 : decode cTP_isAtOrWord 32 = .ok (.getfield 24, 3) := by decide +kernel
theorem dTP_isAtOrWord_35 : decode cTP_isAtOrWord 35 = .ok (.iconst 1, 1) := by decide +kernel
theorem dTP_isAtOrWord_36 : decode cTP_isAtOrWord 36 = .ok (.iadd, 1) := by decide +kernel
theorem dTP_isAtOrWord_37 : decode cTP_isAtOrWord 37 = .ok (.baload, 1) := by decide +kernel
theorem dTP_isAtOrWord_38 : decode cTP_isAtOrWord 38 = .ok (.bipush 124, 2) := by decide +kernel
theorem dTP_isAtOrWord_40 : decode cTP_isAtOrWord 40 = .ok (.if_icmp .ne 7, 3) := by decide +kernel
theorem dTP_isAtOrWord_43 : decode cTP_isAtOrWord 43 = .ok (.iconst 1, 1) := by decide +kernel
theorem dTP_isAtOrWord_44 : decode cTP_isAtOrWord 44 = .ok (.goto 4, 3) := by decide +kernel
theorem dTP_isAtOrWord_47 : decode cTP_isAtOrWord 47 = .ok (.iconst 0, 1) := by decide +kernel
theorem dTP_isAtOrWord_48 : decode cTP_isAtOrWord 48 = .ok (.ireturn, 1) := by decide +kernel
theorem dTP_skip_0 : decode cTP_skip 0 = .ok (.aload_n 0, 1) := by decide +kernel
theorem dTP_skip_1 : decode cTP_skip 1 = .ok (.getfield 24, 3) := by decide +kernel
theorem dTP_skip_4 : decode cTP_skip 4 = .ok (.aload_n 0, 1) := by decide +kernel
theorem dTP_skip_5 : decode cTP_skip 5 = .ok (.getfield 27, 3) := by decide +kernel
theorem dTP_skip_8 : decode cTP_skip 8 = .ok (.if_icmp .ge 28, 3) := by decide +kernel
theorem dTP_skip_11 : decode cTP_skip 11 = .ok (.aload_n 0, 1) := by decide +kernel
theorem dTP_skip_12 : decode cTP_skip 12 = .ok (.getfield 9, 3) := by decide +kernel
theorem dTP_skip_15 : decode cTP_skip 15 = .ok (.aload_n 0, 1) := by decide +kernel
theorem dTP_skip_16 : decode cTP_skip 16 = .ok (.getfield 24, 3) := by decide +kernel
theorem dTP_skip_19 : decode cTP_skip 19 = .ok (.baload, 1) := by decide +kernel
theorem dTP_skip_20 : decode cTP_skip 20 = .ok (.iload_n 1, 1) := by decide +kernel
theorem dTP_skip_21 : decode cTP_skip 21 = .ok (.if_icmp .ne 15, 3) := by decide +kernel
theorem dTP_skip_24 : decode cTP_skip 24 = .ok (.aload_n 0, 1) := by decide +kernel
theorem dTP_skip_25 : decode cTP_skip 25 = .ok (.dup, 1) := by decide +kernel
theorem dTP_skip_26 : decode cTP_skip 26 = .ok (.getfield 24, 3) := by decide +kernel
theorem dTP_skip_29 : decode cTP_skip 29 = .ok (.iconst 1, 1) := by decide +kernel
theorem dTP_skip_30 : decode cTP_skip 30 = .ok (.iadd, 1) := by decide +kernel
theorem dTP_skip_31 : decode cTP_skip 31 = .ok (.putfield 24, 3) := by decide +kernel
theorem dTP_skip_34 : decode cTP_skip 34 = .ok (.iconst 1, 1) := by decide +kernel
theorem dTP_skip_35 : decode cTP_skip 35 = .ok (.ireturn, 1) := by decide +kernel
theorem dTP_skip_36 : decode cTP_skip 36 = .ok (.iconst 0, 1) := by decide +kernel
theorem dTP_skip_37 : decode cTP_skip 37 = .ok (.ireturn, 1) := by decide +kernel
theorem dTP_readNumber_0 : decode cTP_readNumber 0 = .ok (.aload_n 0, 1) := by decide +kernel
theorem dTP_readNumber_1 : decode cTP_readNumber 1 = .ok (.getfield 24, 3) := by decide +kernel
theorem dTP_readNumber_4 : decode cTP_readNumber 4 = .ok (.istore_n 1, 1) := by decide +kernel
theorem dTP_readNumber_5 : decode cTP_readNumber 5 = .ok (.aload_n 0, 1) := by decide +kernel
theorem dTP_readNumber_6 : decode cTP_readNumber 6 = .ok (.getfield 24, 3) := by decide +kernel
theorem dTP_readNumber_9 : decode cTP_readNumber 9 = .ok (.aload_n 0, 1) := by decide +kernel
theorem dTP_readNumber_10 : decode cTP_readNumber 10 = .ok (.getfield 27, 3) := by decide +kernel
theorem dTP_readNumber_13 : decode cTP_readNumber 13 = .ok (.if_icmp .ge 31, 3) := by decide +kernel
theorem dTP_readNumber_16 : decode cTP_readNumber 16 = .ok (.aload_n 0, 1) := by decide +kernel
theorem dTP_readNumber_17 : decode cTP_readNumber 17 = .ok (.getfield 9, 3) := by decide +kernel
theorem dTP_readNumber_20 : decode cTP_readNumber 20 = .ok (.aload_n 0, 1) := by decide +kernel
theorem dTP_readNumber_21 : decode cTP_readNumber 21 = .ok (.getfield 24, 3) := by decide +kernel
theorem dTP_readNumber_24 : decode cTP_readNumber 24 = .ok (.baload, 1) := by decide +kernel
theorem dTP_readNumber_25 : decode cTP_readNumber 25 = .ok (.invokestatic 30, 3) := by decide +kernel
theorem dTP_readNumber_28 : decode cTP_readNumber 28 = .ok (.ifCond .eq 16, 3) := by decide +kernel
theorem dTP_readNumber_31 : decode cTP_readNumber 31 = .ok (.aload_n 0, 1) := by decide +kernel
theorem dTP_readNumber_32 : decode cTP_readNumber 32 = .ok (.dup, 1) := by decide +kernel
theorem dTP_readNumber_33 : decode cTP_readNumber 33 = .ok (.getfield 24, 3) := by decide +kernel
theorem dTP_readNumber_36 : decode cTP_readNumber 36 = .ok (.iconst 1, 1) := by decide +kernel
theorem dTP_readNumber_37 : decode cTP_readNumber 37 = .ok (.iadd, 1) := by decide +kernel
theorem dTP_readNumber_38 : decode cTP_readNumber 38 = .ok (.putfield 24, 3) := by decide +kernel
theorem dTP_readNumber_41 : decode cTP_readNumber 41 = .ok (.goto (-36), 3) := by decide +kernel
theorem dTP_readNumber_44 : decode cTP_readNumber 44 = .ok (.aload_n 0, 1) := by decide +kernel
theorem dTP_readNumber_45 : decode cTP_readNumber 45 = .ok (.iload_n 1, 1) := by decide +kernel
theorem dTP_readNumber_46 : decode cTP_readNumber 46 = .ok (.invokevirtual 34, 3) := by decide +kernel
theorem dTP_readNumber_49 : decode cTP_readNumber 49 = .ok (.ireturn, 1) := by decide +kernel
theorem dTP_numberSince_0 : decode cTP_numberSince 0 = .ok (.aload_n 0, 1) := by decide +kernel
theorem dTP_numberSince_1 : decode cTP_numberSince 1 = .ok (.getfield 24, 3) := by decide +kernel
theorem dTP_numberSince_4 : decode cTP_numberSince 4 = .ok (.iload_n 1, 1) := by decide +kernel
theorem dTP_numberSince_5 : decode cTP_numberSince 5 = .ok (.isub, 1) := by decide +kernel
theorem dTP_numberSince_6 : decode cTP_numberSince 6 = .ok (.istore_n 2, 1) := by decide +kernel
theorem dTP_numberSince_7 : decode cTP_numberSince 7 = .ok (.iload_n 2, 1) := by decide +kernel
theorem dTP_numberSince_8 : decode cTP_numberSince 8 = .ok (.iconst 1, 1) := by decide +kernel
theorem dTP_numberSince_9 : decode cTP_numberSince 9 = .ok (.if_icmp .lt 25, 3) := by decide +kernel
theorem dTP_numberSince_12 : decode cTP_numberSince 12 = .ok (.iload_n 2, 1) := by decide +kernel
theorem dTP_numberSince_13 : decode cTP_numberSince 13 = .ok (.bipush 9, 2) := by decide +kernel
theorem dTP_numberSince_15 : decode cTP_numberSince 15 = .ok (.if_icmp .gt 19, 3) := by decide +kernel
theorem dTP_numberSince_18 : decode cTP_numberSince 18 = .ok (.iload_n 2, 1) := by decide +kernel
theorem dTP_numberSince_19 : decode cTP_numberSince 19 = .ok (.iconst 1, 1) := by decide +kernel
theorem dTP_numberSince_20 : decode cTP_numberSince 20 = .ok (.if_icmp .le 16, 3) := by decide +kernel
theorem dTP_numberSince_23 : decode cTP_numberSince 23 = .ok (.aload_n 0, 1) := by decide +kernel
theorem dTP_numberSince_24 : decode cTP_numberSince 24 = .ok (.getfield 9, 3) := by decide +kernel
theorem dTP_numberSince_27 : decode cTP_numberSince 27 = .ok (.iload_n 1, 1) := by decide +kernel
theorem dTP_numberSince_28 : decode cTP_numberSince 28 = .ok (.baload, 1) := by decide +kernel
theorem dTP_numberSince_29 : decode cTP_numberSince 29 = .ok (.bipush 48, 2) := by decide +kernel
theorem dTP_numberSince_31 : decode cTP_numberSince 31 = .ok (.if_icmp .ne 5, 3) := by decide +kernel
theorem dTP_numberSince_34 : decode cTP_numberSince 34 = .ok (.iconst (-1), 1) := by decide +kernel
theorem dTP_numberSince_35 : decode cTP_numberSince 35 = .ok (.ireturn, 1) := by decide +kernel
theorem dTP_numberSince_36 : decode cTP_numberSince 36 = .ok (.iconst 0, 1) := by decide +kernel
theorem dTP_numberSince_37 : decode cTP_numberSince 37 = .ok (.istore_n 3, 1) := by decide +kernel
theorem dTP_numberSince_38 : decode cTP_numberSince 38 = .ok (.iload_n 1, 1) := by decide +kernel
theorem dTP_numberSince_39 : decode cTP_numberSince 39 = .ok (.istore 4, 2) := by decide +kernel
theorem dTP_numberSince_41 : decode cTP_numberSince 41 = .ok (.iload 4, 2) := by decide +kernel
theorem dTP_numberSince_43 : decode cTP_numberSince 43 = .ok (.aload_n 0, 1) := by decide +kernel
theorem dTP_numberSince_44 : decode cTP_numberSince 44 = .ok (.getfield 24, 3) := by decide +kernel
theorem dTP_numberSince_47 : decode cTP_numberSince 47 = .ok (.if_icmp .ge 25, 3) := by decide +kernel
theorem dTP_numberSince_50 : decode cTP_numberSince 50 = .ok (.iload_n 3, 1) := by decide +kernel
theorem dTP_numberSince_51 : decode cTP_numberSince 51 = .ok (.bipush 10, 2) := by decide +kernel
theorem dTP_numberSince_53 : decode cTP_numberSince 53 = .ok (.imul, 1) := by decide +kernel
theorem dTP_numberSince_54 : decode cTP_numberSince 54 = .ok (.aload_n 0, 1) := by decide +kernel
theorem dTP_numberSince_55 : decode cTP_numberSince 55 = .ok (.getfield 9, 3) := by decide +kernel
theorem dTP_numberSince_58 : decode cTP_numberSince 58 = .ok (.iload 4, 2) := by decide +kernel
theorem dTP_numberSince_60 : decode cTP_numberSince 60 = .ok (.baload, 1) := by decide +kernel
theorem dTP_numberSince_61 : decode cTP_numberSince 61 = .ok (.bipush 48, 2) := by decide +kernel
theorem dTP_numberSince_63 : decode cTP_numberSince 63 = .ok (.isub, 1) := by decide +kernel
theorem dTP_numberSince_64 : decode cTP_numberSince 64 = .ok (.iadd, 1) := by decide +kernel
theorem dTP_numberSince_65 : decode cTP_numberSince 65 = .ok (.istore_n 3, 1) := by decide +kernel
theorem dTP_numberSince_66 : decode cTP_numberSince 66 = .ok (.iinc 4 1, 3) := by decide +kernel
theorem dTP_numberSince_69 : decode cTP_numberSince 69 = .ok (.goto (-28), 3) := by decide +kernel
theorem dTP_numberSince_72 : decode cTP_numberSince 72 = .ok (.iload_n 3, 1) := by decide +kernel
theorem dTP_numberSince_73 : decode cTP_numberSince 73 = .ok (.ireturn, 1) := by decide +kernel
theorem dTP_readMark_0 : decode cTP_readMark 0 = .ok (.aload_n 0, 1) := by decide +kernel
theorem dTP_readMark_1 : decode cTP_readMark 1 = .ok (.getfield 24, 3) := by decide +kernel
theorem dTP_readMark_4 : decode cTP_readMark 4 = .ok (.istore_n 1, 1) := by decide +kernel
theorem dTP_readMark_5 : decode cTP_readMark 5 = .ok (.lconst 0, 1) := by decide +kernel
theorem dTP_readMark_6 : decode cTP_readMark 6 = .ok (.lstore_n 2, 1) := by decide +kernel
theorem dTP_readMark_7 : decode cTP_readMark 7 = .ok (.iconst 1, 1) := by decide +kernel
theorem dTP_readMark_8 : decode cTP_readMark 8 = .ok (.istore 4, 2) := by decide +kernel
theorem dTP_readMark_10 : decode cTP_readMark 10 = .ok (.aload_n 0, 1) := by decide +kernel
theorem dTP_readMark_11 : decode cTP_readMark 11 = .ok (.getfield 24, 3) := by decide +kernel
theorem dTP_readMark_14 : decode cTP_readMark 14 = .ok (.aload_n 0, 1) := by decide +kernel
theorem dTP_readMark_15 : decode cTP_readMark 15 = .ok (.getfield 27, 3) := by decide +kernel
theorem dTP_readMark_18 : decode cTP_readMark 18 = .ok (.if_icmp .ge 86, 3) := by decide +kernel
theorem dTP_readMark_21 : decode cTP_readMark 21 = .ok (.aload_n 0, 1) := by decide +kernel
theorem dTP_readMark_22 : decode cTP_readMark 22 = .ok (.getfield 9, 3) := by decide +kernel
theorem dTP_readMark_25 : decode cTP_readMark 25 = .ok (.aload_n 0, 1) := by decide +kernel
theorem dTP_readMark_26 : decode cTP_readMark 26 = .ok (.getfield 24, 3) := by decide +kernel
theorem dTP_readMark_29 : decode cTP_readMark 29 = .ok (.baload, 1) := by decide +kernel
theorem dTP_readMark_30 : decode cTP_readMark 30 = .ok (.invokestatic 30, 3) := by decide +kernel
theorem dTP_readMark_33 : decode cTP_readMark 33 = .ok (.istore 5, 2) := by decide +kernel
theorem dTP_readMark_35 : decode cTP_readMark 35 = .ok (.iload 5, 2) := by decide +kernel
theorem dTP_readMark_37 : decode cTP_readMark 37 = .ok (.ifCond .ne 21, 3) := by decide +kernel
theorem dTP_readMark_40 : decode cTP_readMark 40 = .ok (.aload_n 0, 1) := by decide +kernel
theorem dTP_readMark_41 : decode cTP_readMark 41 = .ok (.getfield 9, 3) := by decide +kernel
theorem dTP_readMark_44 : decode cTP_readMark 44 = .ok (.aload_n 0, 1) := by decide +kernel
theorem dTP_readMark_45 : decode cTP_readMark 45 = .ok (.getfield 24, 3) := by decide +kernel
theorem dTP_readMark_48 : decode cTP_readMark 48 = .ok (.baload, 1) := by decide +kernel
theorem dTP_readMark_49 : decode cTP_readMark 49 = .ok (.invokestatic 38, 3) := by decide +kernel
theorem dTP_readMark_52 : decode cTP_readMark 52 = .ok (.ifCond .ne 6, 3) := by decide +kernel
theorem dTP_readMark_55 : decode cTP_readMark 55 = .ok (.goto 49, 3) := by decide +kernel
theorem dTP_readMark_58 : decode cTP_readMark 58 = .ok (.iload 4, 2) := by decide +kernel
theorem dTP_readMark_60 : decode cTP_readMark 60 = .ok (.ifCond .eq 12, 3) := by decide +kernel
theorem dTP_readMark_63 : decode cTP_readMark 63 = .ok (.iload 5, 2) := by decide +kernel
theorem dTP_readMark_65 : decode cTP_readMark 65 = .ok (.ifCond .eq 7, 3) := by decide +kernel
theorem dTP_readMark_68 : decode cTP_readMark 68 = .ok (.iconst 1, 1) := by decide +kernel
theorem dTP_readMark_69 : decode cTP_readMark 69 = .ok (.goto 4, 3) := by decide +kernel
theorem dTP_readMark_72 : decode cTP_readMark 72 = .ok (.iconst 0, 1) := by decide +kernel
theorem dTP_readMark_73 : decode cTP_readMark 73 = .ok (.istore 4, 2) := by decide +kernel
theorem dTP_readMark_75 : decode cTP_readMark 75 = .ok (.lload_n 2, 1) := by decide +kernel
theorem dTP_readMark_76 : decode cTP_readMark 76 = .ok (.bipush 8, 2) := by decide +kernel
theorem dTP_readMark_78 : decode cTP_readMark 78 = .ok (.lshl, 1) := by decide +kernel
theorem dTP_readMark_79 : decode cTP_readMark 79 = .ok (.aload_n 0, 1) := by decide +kernel
theorem dTP_readMark_80 : decode cTP_readMark 80 = .ok (.getfield 9, 3) := by decide +kernel
theorem dTP_readMark_83 : decode cTP_readMark 83 = .ok (.aload_n 0, 1) := by decide +kernel
theorem dTP_readMark_84 : decode cTP_readMark 84 = .ok (.getfield 24, 3) := by decide +kernel
theorem dTP_readMark_87 : decode cTP_readMark 87 = .ok (.baload, 1) := by decide +kernel
theorem dTP_readMark_88 : decode cTP_readMark 88 = .ok (.i2l, 1) := by decide +kernel
theorem dTP_readMark_89 : decode cTP_readMark 89 = .ok (.lor, 1) := by decide +kernel
theorem dTP_readMark_90 : decode cTP_readMark 90 = .ok (.lstore_n 2, 1) := by decide +kernel
theorem dTP_readMark_91 : decode cTP_readMark 91 = .ok (.aload_n 0, 1) := by decide +kernel
theorem dTP_readMark_92 : decode cTP_readMark 92 = .ok (.dup, 1) := by decide +kernel
theorem dTP_readMark_93 : decode cTP_readMark 93 = .ok (.getfield 24, 3) := by decide +kernel
theorem dTP_readMark_96 : decode cTP_readMark 96 = .ok (.iconst 1, 1) := by decide +kernel
theorem dTP_readMark_97 : decode cTP_readMark 97 = .ok (.iadd, 1) := by decide +kernel
theorem dTP_readMark_98 : decode cTP_readMark 98 = .ok (.putfield 24, 3) := by decide +kernel
theorem dTP_readMark_101 : decode cTP_readMark 101 = .ok (.goto (-91), 3) := by decide +kernel
theorem dTP_readMark_104 : decode cTP_readMark 104 = .ok (.aload_n 0, 1) := by decide +kernel
theorem dTP_readMark_105 : decode cTP_readMark 105 = .ok (.getfield 24, 3) := by decide +kernel
theorem dTP_readMark_108 : decode cTP_readMark 108 = .ok (.iload_n 1, 1) := by decide +kernel
theorem dTP_readMark_109 : decode cTP_readMark 109 = .ok (.isub, 1) := by decide +kernel
theorem dTP_readMark_110 : decode cTP_readMark 110 = .ok (.istore 5, 2) := by decide +kernel
theorem dTP_readMark_112 : decode cTP_readMark 112 = .ok (.iload 5, 2) := by decide +kernel
theorem dTP_readMark_114 : decode cTP_readMark 114 = .ok (.iconst 1, 1) := by decide +kernel
theorem dTP_readMark_115 : decode cTP_readMark 115 = .ok (.if_icmp .lt 10, 3) := by decide +kernel
theorem dTP_readMark_118 : decode cTP_readMark 118 = .ok (.iload 5, 2) := by decide +kernel
theorem dTP_readMark_120 : decode cTP_readMark 120 = .ok (.bipush 8, 2) := by decide +kernel
theorem dTP_readMark_122 : decode cTP_readMark 122 = .ok (.if_icmp .le 7, 3) := by decide +kernel
theorem dTP_readMark_125 : decode cTP_readMark 125 = .ok (.ldc2_w 41, 3) := by decide +kernel
theorem dTP_readMark_128 : decode cTP_readMark 128 = .ok (.lreturn, 1) := by decide +kernel
theorem dTP_readMark_129 : decode cTP_readMark 129 = .ok (.iload 4, 2) := by decide +kernel
theorem dTP_readMark_131 : decode cTP_readMark 131 = .ok (.ifCond .eq 12, 3) := by decide +kernel
theorem dTP_readMark_134 : decode cTP_readMark 134 = .ok (.aload_n 0, 1) := by decide +kernel
theorem dTP_readMark_135 : decode cTP_readMark 135 = .ok (.iload_n 1, 1) := by decide +kernel
theorem dTP_readMark_136 : decode cTP_readMark 136 = .ok (.invokevirtual 34, 3) := by decide +kernel
theorem dTP_readMark_139 : decode cTP_readMark 139 = .ok (.i2l, 1) := by decide +kernel
theorem dTP_readMark_140 : decode cTP_readMark 140 = .ok (.goto 13, 3) := by decide +kernel
theorem dTP_readMark_143 : decode cTP_readMark 143 = .ok (.lload_n 2, 1) := by decide +kernel
theorem dTP_readMark_144 : decode cTP_readMark 144 = .ok (.bipush 8, 2) := by decide +kernel
theorem dTP_readMark_146 : decode cTP_readMark 146 = .ok (.bipush 8, 2) := by decide +kernel
theorem dTP_readMark_148 : decode cTP_readMark 148 = .ok (.iload 5, 2) := by decide +kernel
theorem dTP_readMark_150 : decode cTP_readMark 150 = .ok (.isub, 1) := by decide +kernel
theorem dTP_readMark_151 : decode cTP_readMark 151 = .ok (.imul, 1) := by decide +kernel
theorem dTP_readMark_152 : decode cTP_readMark 152 = .ok (.lshl, 1) := by decide +kernel
theorem dTP_readMark_153 : decode cTP_readMark 153 = .ok (.lreturn, 1) := by decide +kernel
theorem dTP_isLetterOrHyphen_0 : decode cTP_isLetterOrHyphen 0 = .ok (.iload_n 0, 1) := by decide +kernel
theorem dTP_isLetterOrHyphen_1 : decode cTP_isLetterOrHyphen 1 = .ok (.bipush 97, 2) := by decide +kernel
theorem dTP_isLetterOrHyphen_3 : decode cTP_isLetterOrHyphen 3 = .ok (.if_icmp .lt 9, 3) := by decide +kernel
theorem dTP_isLetterOrHyphen_6 : decode cTP_isLetterOrHyphen 6 = .ok (.iload_n 0, 1) := by decide +kernel
theorem dTP_isLetterOrHyphen_7 : decode cTP_isLetterOrHyphen 7 = .ok (.bipush 122, 2) := by decide +kernel
theorem dTP_isLetterOrHyphen_9 : decode cTP_isLetterOrHyphen 9 = .ok (.if_icmp .le 21, 3) := by decide +kernel
theorem dTP_isLetterOrHyphen_12 : decode cTP_isLetterOrHyphen 12 = .ok (.iload_n 0, 1) := by decide +kernel
theorem dTP_isLetterOrHyphen_13 : decode cTP_isLetterOrHyphen 13 = .ok (.bipush 65, 2) := by decide +kernel
theorem dTP_isLetterOrHyphen_15 : decode cTP_isLetterOrHyphen 15 = .ok (.if_icmp .lt 9, 3) := by decide +kernel
theorem dTP_isLetterOrHyphen_18 : decode cTP_isLetterOrHyphen 18 = .ok (.iload_n 0, 1) := by decide +kernel
theorem dTP_isLetterOrHyphen_19 : decode cTP_isLetterOrHyphen 19 = .ok (.bipush 90, 2) := by decide +kernel
theorem dTP_isLetterOrHyphen_21 : decode cTP_isLetterOrHyphen 21 = .ok (.if_icmp .le 9, 3) := by decide +kernel
theorem dTP_isLetterOrHyphen_24 : decode cTP_isLetterOrHyphen 24 = .ok (.iload_n 0, 1) := by decide +kernel
theorem dTP_isLetterOrHyphen_25 : decode cTP_isLetterOrHyphen 25 = .ok (.bipush 45, 2) := by decide +kernel
theorem dTP_isLetterOrHyphen_27 : decode cTP_isLetterOrHyphen 27 = .ok (.if_icmp .ne 7, 3) := by decide +kernel
theorem dTP_isLetterOrHyphen_30 : decode cTP_isLetterOrHyphen 30 = .ok (.iconst 1, 1) := by decide +kernel
theorem dTP_isLetterOrHyphen_31 : decode cTP_isLetterOrHyphen 31 = .ok (.goto 4, 3) := by decide +kernel
theorem dTP_isLetterOrHyphen_34 : decode cTP_isLetterOrHyphen 34 = .ok (.iconst 0, 1) := by decide +kernel
theorem dTP_isLetterOrHyphen_35 : decode cTP_isLetterOrHyphen 35 = .ok (.ireturn, 1) := by decide +kernel
theorem dTP_isDigit_0 : decode cTP_isDigit 0 = .ok (.iload_n 0, 1) := by decide +kernel
theorem dTP_isDigit_1 : decode cTP_isDigit 1 = .ok (.bipush 48, 2) := by decide +kernel
theorem dTP_isDigit_3 : decode cTP_isDigit 3 = .ok (.if_icmp .lt 13, 3) := by decide +kernel
theorem dTP_isDigit_6 : decode cTP_isDigit 6 = .ok (.iload_n 0, 1) := by decide +kernel
theorem dTP_isDigit_7 : decode cTP_isDigit 7 = .ok (.bipush 57, 2) := by decide +kernel
theorem dTP_isDigit_9 : decode cTP_isDigit 9 = .ok (.if_icmp .gt 7, 3) := by decide +kernel
theorem dTP_isDigit_12 : decode cTP_isDigit 12 = .ok (.iconst 1, 1) := by decide +kernel
theorem dTP_isDigit_13 : decode cTP_isDigit 13 = .ok (.goto 4, 3) := by decide +kernel
theorem dTP_isDigit_16 : decode cTP_isDigit 16 = .ok (.iconst 0, 1) := by decide +kernel
theorem dTP_isDigit_17 : decode cTP_isDigit 17 = .ok (.ireturn, 1) := by decide +kernel
theorem dVE_init_0 : decode cVE_init 0 = .ok (.aload_n 0, 1) := by decide +kernel
theorem dVE_init_1 : decode cVE_init 1 = .ok (.invokespecial 1, 3) := by decide +kernel
theorem dVE_init_4 : decode cVE_init 4 = .ok (.aload_n 0, 1) := by decide +kernel
theorem dVE_init_5 : decode cVE_init 5 = .ok (.bipush 7, 2) := by decide +kernel
theorem dVE_init_7 : decode cVE_init 7 = .ok (.newarray .long, 2) := by decide +kernel
theorem dVE_init_9 : decode cVE_init 9 = .ok (.putfield 9, 3) := by decide +kernel
theorem dVE_init_12 : decode cVE_init 12 = .ok (.aload_n 0, 1) := by decide +kernel
theorem dVE_init_13 : decode cVE_init 13 = .ok (.iconst 0, 1) := by decide +kernel
theorem dVE_init_14 : decode cVE_init 14 = .ok (.putfield 13, 3) := by decide +kernel
theorem dVE_init_17 : decode cVE_init 17 = .ok (.return_, 1) := by decide +kernel
theorem dVE_number_0 : decode cVE_number 0 = .ok (.aload_n 0, 1) := by decide +kernel
theorem dVE_number_1 : decode cVE_number 1 = .ok (.getfield 9, 3) := by decide +kernel
theorem dVE_number_4 : decode cVE_number 4 = .ok (.iload_n 1, 1) := by decide +kernel
theorem dVE_number_5 : decode cVE_number 5 = .ok (.laload, 1) := by decide +kernel
theorem dVE_number_6 : decode cVE_number 6 = .ok (.l2i, 1) := by decide +kernel
theorem dVE_number_7 : decode cVE_number 7 = .ok (.ireturn, 1) := by decide +kernel
theorem dVE_setNumbers_0 : decode cVE_setNumbers 0 = .ok (.aload_n 0, 1) := by decide +kernel
theorem dVE_setNumbers_1 : decode cVE_setNumbers 1 = .ok (.getfield 9, 3) := by decide +kernel
theorem dVE_setNumbers_4 : decode cVE_setNumbers 4 = .ok (.iconst 0, 1) := by decide +kernel
theorem dVE_setNumbers_5 : decode cVE_setNumbers 5 = .ok (.lload_n 1, 1) := by decide +kernel
theorem dVE_setNumbers_6 : decode cVE_setNumbers 6 = .ok (.lastore, 1) := by decide +kernel
theorem dVE_setNumbers_7 : decode cVE_setNumbers 7 = .ok (.aload_n 0, 1) := by decide +kernel
theorem dVE_setNumbers_8 : decode cVE_setNumbers 8 = .ok (.getfield 9, 3) := by decide +kernel
theorem dVE_setNumbers_11 : decode cVE_setNumbers 11 = .ok (.iconst 1, 1) := by decide +kernel
theorem dVE_setNumbers_12 : decode cVE_setNumbers 12 = .ok (.lload_n 3, 1) := by decide +kernel
theorem dVE_setNumbers_13 : decode cVE_setNumbers 13 = .ok (.lastore, 1) := by decide +kernel
theorem dVE_setNumbers_14 : decode cVE_setNumbers 14 = .ok (.aload_n 0, 1) := by decide +kernel
theorem dVE_setNumbers_15 : decode cVE_setNumbers 15 = .ok (.getfield 9, 3) := by decide +kernel
theorem dVE_setNumbers_18 : decode cVE_setNumbers 18 = .ok (.iconst 2, 1) := by decide +kernel
theorem dVE_setNumbers_19 : decode cVE_setNumbers 19 = .ok (.lload 5, 2) := by decide +kernel
theorem dVE_setNumbers_21 : decode cVE_setNumbers 21 = .ok (.lastore, 1) := by decide +kernel
theorem dVE_setNumbers_22 : decode cVE_setNumbers 22 = .ok (.aload_n 0, 1) := by decide +kernel
theorem dVE_setNumbers_23 : decode cVE_setNumbers 23 = .ok (.invokevirtual 17, 3) := by decide +kernel
theorem dVE_setNumbers_26 : decode cVE_setNumbers 26 = .ok (.return_, 1) := by decide +kernel
theorem dVE_dropPre_0 : decode cVE_dropPre 0 = .ok (.aload_n 0, 1) := by decide +kernel
theorem dVE_dropPre_1 : decode cVE_dropPre 1 = .ok (.iconst 0, 1) := by decide +kernel
theorem dVE_dropPre_2 : decode cVE_dropPre 2 = .ok (.putfield 13, 3) := by decide +kernel
theorem dVE_dropPre_5 : decode cVE_dropPre 5 = .ok (.aload_n 0, 1) := by decide +kernel
theorem dVE_dropPre_6 : decode cVE_dropPre 6 = .ok (.getfield 9, 3) := by decide +kernel
theorem dVE_dropPre_9 : decode cVE_dropPre 9 = .ok (.iconst 3, 1) := by decide +kernel
theorem dVE_dropPre_10 : decode cVE_dropPre 10 = .ok (.ldc2_w 20, 3) := by decide +kernel
theorem dVE_dropPre_13 : decode cVE_dropPre 13 = .ok (.lastore, 1) := by decide +kernel
theorem dVE_dropPre_14 : decode cVE_dropPre 14 = .ok (.iconst 1, 1) := by decide +kernel
theorem dVE_dropPre_15 : decode cVE_dropPre 15 = .ok (.istore_n 1, 1) := by decide +kernel
theorem dVE_dropPre_16 : decode cVE_dropPre 16 = .ok (.iload_n 1, 1) := by decide +kernel
theorem dVE_dropPre_17 : decode cVE_dropPre 17 = .ok (.iconst 4, 1) := by decide +kernel
theorem dVE_dropPre_18 : decode cVE_dropPre 18 = .ok (.if_icmp .ge 20, 3) := by decide +kernel
theorem dVE_dropPre_21 : decode cVE_dropPre 21 = .ok (.aload_n 0, 1) := by decide +kernel
theorem dVE_dropPre_22 : decode cVE_dropPre 22 = .ok (.getfield 9, 3) := by decide +kernel
theorem dVE_dropPre_25 : decode cVE_dropPre 25 = .ok (.iconst 3, 1) := by decide +kernel
theorem dVE_dropPre_26 : decode cVE_dropPre 26 = .ok (.iload_n 1, 1) := by decide +kernel
theorem dVE_dropPre_27 : decode cVE_dropPre 27 = .ok (.iadd, 1) := by decide +kernel
theorem dVE_dropPre_28 : decode cVE_dropPre 28 = .ok (.ldc2_w 22, 3) := by decide +kernel
theorem dVE_dropPre_31 : decode cVE_dropPre 31 = .ok (.lastore, 1) := by decide +kernel
theorem dVE_dropPre_32 : decode cVE_dropPre 32 = .ok (.iinc 1 1, 3) := by decide +kernel
theorem dVE_dropPre_35 : decode cVE_dropPre 35 = .ok (.goto (-19), 3) := by decide +kernel
theorem dVE_dropPre_38 : decode cVE_dropPre 38 = .ok (.return_, 1) := by decide +kernel
theorem dVE_copyFrom_0 : decode cVE_copyFrom 0 = .ok (.aload_n 1, 1) := by decide +kernel
theorem dVE_copyFrom_1 : decode cVE_copyFrom 1 = .ok (.getfield 9, 3) := by decide +kernel
theorem dVE_copyFrom_4 : decode cVE_copyFrom 4 = .ok (.iconst 0, 1) := by decide +kernel
theorem dVE_copyFrom_5 : decode cVE_copyFrom 5 = .ok (.aload_n 0, 1) := by decide +kernel
theorem dVE_copyFrom_6 : decode cVE_copyFrom 6 = .ok (.getfield 9, 3) := by decide +kernel
theorem dVE_copyFrom_9 : decode cVE_copyFrom 9 = .ok (.iconst 0, 1) := by decide +kernel
theorem dVE_copyFrom_10 : decode cVE_copyFrom 10 = .ok (.aload_n 0, 1) := by decide +kernel
theorem dVE_copyFrom_11 : decode cVE_copyFrom 11 = .ok (.getfield 9, 3) := by decide +kernel
theorem dVE_copyFrom_14 : decode cVE_copyFrom 14 = .ok (.arraylength, 1) := by decide +kernel
theorem dVE_copyFrom_15 : decode cVE_copyFrom 15 = .ok (.invokestatic 24, 3) := by decide +kernel
theorem dVE_copyFrom_18 : decode cVE_copyFrom 18 = .ok (.aload_n 0, 1) := by decide +kernel
theorem dVE_copyFrom_19 : decode cVE_copyFrom 19 = .ok (.aload_n 1, 1) := by decide +kernel
theorem dVE_copyFrom_20 : decode cVE_copyFrom 20 = .ok (.getfield 13, 3) := by decide +kernel
theorem dVE_copyFrom_23 : decode cVE_copyFrom 23 = .ok (.putfield 13, 3) := by decide +kernel
theorem dVE_copyFrom_26 : decode cVE_copyFrom 26 = .ok (.return_, 1) := by decide +kernel
theorem dVE_orderTo_0 : decode cVE_orderTo 0 = .ok (.iconst 0, 1) := by decide +kernel
theorem dVE_orderTo_1 : decode cVE_orderTo 1 = .ok (.istore_n 2, 1) := by decide +kernel
theorem dVE_orderTo_2 : decode cVE_orderTo 2 = .ok (.iload_n 2, 1) := by decide +kernel
theorem dVE_orderTo_3 : decode cVE_orderTo 3 = .ok (.aload_n 0, 1) := by decide +kernel
theorem dVE_orderTo_4 : decode cVE_orderTo 4 = .ok (.getfield 9, 3) := by decide +kernel
theorem dVE_orderTo_7 : decode cVE_orderTo 7 = .ok (.arraylength, 1) := by decide +kernel
theorem dVE_orderTo_8 : decode cVE_orderTo 8 = .ok (.if_icmp .ge 47, 3) := by decide +kernel
theorem dVE_orderTo_11 : decode cVE_orderTo 11 = .ok (.aload_n 0, 1) := by decide +kernel
theorem dVE_orderTo_12 : decode cVE_orderTo 12 = .ok (.getfield 9, 3) := by decide +kernel
theorem dVE_orderTo_15 : decode cVE_orderTo 15 = .ok (.iload_n 2, 1) := by decide +kernel
theorem dVE_orderTo_16 : decode cVE_orderTo 16 = .ok (.laload, 1) := by decide +kernel
theorem dVE_orderTo_17 : decode cVE_orderTo 17 = .ok (.aload_n 1, 1) := by decide +kernel
theorem dVE_orderTo_18 : decode cVE_orderTo 18 = .ok (.getfield 9, 3) := by decide +kernel
theorem dVE_orderTo_21 : decode cVE_orderTo 21 = .ok (.iload_n 2, 1) := by decide +kernel
theorem dVE_orderTo_22 : decode cVE_orderTo 22 = .ok (.laload, 1) := by decide +kernel
theorem dVE_orderTo_23 : decode cVE_orderTo 23 = .ok (.lcmp, 1) := by decide +kernel
theorem dVE_orderTo_24 : decode cVE_orderTo 24 = .ok (.ifCond .eq 25, 3) := by decide +kernel
theorem dVE_orderTo_27 : decode cVE_orderTo 27 = .ok (.aload_n 0, 1) := by decide +kernel
theorem dVE_orderTo_28 : decode cVE_orderTo 28 = .ok (.getfield 9, 3) := by decide +kernel
theorem dVE_orderTo_31 : decode cVE_orderTo 31 = .ok (.iload_n 2, 1) := by decide +kernel
theorem dVE_orderTo_32 : decode cVE_orderTo 32 = .ok (.laload, 1) := by decide +kernel
theorem dVE_orderTo_33 : decode cVE_orderTo 33 = .ok (.aload_n 1, 1) := by decide +kernel
theorem dVE_orderTo_34 : decode cVE_orderTo 34 = .ok (.getfield 9, 3) := by decide +kernel
theorem dVE_orderTo_37 : decode cVE_orderTo 37 = .ok (.iload_n 2, 1) := by decide +kernel
theorem dVE_orderTo_38 : decode cVE_orderTo 38 = .ok (.laload, 1) := by decide +kernel
theorem dVE_orderTo_39 : decode cVE_orderTo 39 = .ok (.lcmp, 1) := by decide +kernel
theorem dVE_orderTo_40 : decode cVE_orderTo 40 = .ok (.ifCond .ge 7, 3) := by decide +kernel
theorem dVE_orderTo_43 : decode cVE_orderTo 43 = .ok (.iconst (-1), 1) := by decide +kernel
theorem dVE_orderTo_44 : decode cVE_orderTo 44 = .ok (.goto 4, 3) := by decide +kernel
theorem dVE_orderTo_47 : decode cVE_orderTo 47 = .ok (.iconst 1, 1) := by decide +kernel
theorem dVE_orderTo_48 : decode cVE_orderTo 48 = .ok (.ireturn, 1) := by decide +kernel
theorem dVE_orderTo_49 : decode cVE_orderTo 49 = .ok (.iinc 2 1, 3) := by decide +kernel
theorem dVE_orderTo_52 : decode cVE_orderTo 52 = .ok (.goto (-50), 3) := by decide +kernel
theorem dVE_orderTo_55 : decode cVE_orderTo 55 = .ok (.iconst 0, 1) := by decide +kernel
theorem dVE_orderTo_56 : decode cVE_orderTo 56 = .ok (.ireturn, 1) := by decide +kernel
theorem dVE_readFrom_0 : decode cVE_readFrom 0 = .ok (.iconst 0, 1) := by decide +kernel
theorem dVE_readFrom_1 : decode cVE_readFrom 1 = .ok (.istore_n 2, 1) := by decide +kernel
theorem dVE_readFrom_2 : decode cVE_readFrom 2 = .ok (.iload_n 2, 1) := by decide +kernel
theorem dVE_readFrom_3 : decode cVE_readFrom 3 = .ok (.iconst 3, 1) := by decide +kernel
theorem dVE_readFrom_4 : decode cVE_readFrom 4 = .ok (.if_icmp .ge 48, 3) := by decide +kernel
theorem dVE_readFrom_7 : decode cVE_readFrom 7 = .ok (.iload_n 2, 1) := by decide +kernel
theorem dVE_readFrom_8 : decode cVE_readFrom 8 = .ok (.ifCond .le 14, 3) := by decide +kernel
theorem dVE_readFrom_11 : decode cVE_readFrom 11 = .ok (.aload_n 1, 1) := by decide +kernel
theorem dVE_readFrom_12 : decode cVE_readFrom 12 = .ok (.bipush 46, 2) := by decide +kernel
theorem dVE_readFrom_14 : decode cVE_readFrom 14 = .ok (.invokevirtual 30, 3) := by decide +kernel
theorem dVE_readFrom_17 : decode cVE_readFrom 17 = .ok (.ifCond .ne 5, 3) := by decide +kernel
theorem dVE_readFrom_20 : decode cVE_readFrom 20 = .ok (.iconst 0, 1) := by decide +kernel
theorem dVE_readFrom_21 : decode cVE_readFrom 21 = .ok (.ireturn, 1) := by decide +kernel
theorem dVE_readFrom_22 : decode cVE_readFrom 22 = .ok (.aload_n 0, 1) := by decide +kernel
theorem dVE_readFrom_23 : decode cVE_readFrom 23 = .ok (.getfield 9, 3) := by decide +kernel
theorem dVE_readFrom_26 : decode cVE_readFrom 26 = .ok (.iload_n 2, 1) := by decide +kernel
theorem dVE_readFrom_27 : decode cVE_readFrom 27 = .ok (.aload_n 1, 1) := by decide +kernel
theorem dVE_readFrom_28 : decode cVE_readFrom 28 = .ok (.invokevirtual 36, 3) := by decide +kernel
theorem dVE_readFrom_31 : decode cVE_readFrom 31 = .ok (.i2l, 1) := by decide +kernel
theorem dVE_readFrom_32 : decode cVE_readFrom 32 = .ok (.lastore, 1) := by decide +kernel
theorem dVE_readFrom_33 : decode cVE_readFrom 33 = .ok (.aload_n 0, 1) := by decide +kernel
theorem dVE_readFrom_34 : decode cVE_readFrom 34 = .ok (.getfield 9, 3) := by decide +kernel
theorem dVE_readFrom_37 : decode cVE_readFrom 37 = .ok (.iload_n 2, 1) := by decide +kernel
theorem dVE_readFrom_38 : decode cVE_readFrom 38 = .ok (.laload, 1) := by decide +kernel
theorem dVE_readFrom_39 : decode cVE_readFrom 39 = .ok (.lconst 0, 1) := by decide +kernel
theorem dVE_readFrom_40 : decode cVE_readFrom 40 = .ok (.lcmp, 1) := by decide +kernel
theorem dVE_readFrom_41 : decode cVE_readFrom 41 = .ok (.ifCond .ge 5, 3) := by decide +kernel
theorem dVE_readFrom_44 : decode cVE_readFrom 44 = .ok (.iconst 0, 1) := by decide +kernel
theorem dVE_readFrom_45 : decode cVE_readFrom 45 = .ok (.ireturn, 1) := by decide +kernel
theorem dVE_readFrom_46 : decode cVE_readFrom 46 = .ok (.iinc 2 1, 3) := by decide +kernel
theorem dVE_readFrom_49 : decode cVE_readFrom 49 = .ok (.goto (-47), 3) := by decide +kernel
theorem dVE_readFrom_52 : decode cVE_readFrom 52 = .ok (.aload_n 0, 1) := by decide +kernel
theorem dVE_readFrom_53 : decode cVE_readFrom 53 = .ok (.invokevirtual 17, 3) := by decide +kernel
theorem dVE_readFrom_56 : decode cVE_readFrom 56 = .ok (.aload_n 1, 1) := by decide +kernel
theorem dVE_readFrom_57 : decode cVE_readFrom 57 = .ok (.invokevirtual 40, 3) := by decide +kernel
theorem dVE_readFrom_60 : decode cVE_readFrom 60 = .ok (.ifCond .ne 20, 3) := by decide +kernel
theorem dVE_readFrom_63 : decode cVE_readFrom 63 = .ok (.aload_n 1, 1) := by decide +kernel
theorem dVE_readFrom_64 : decode cVE_readFrom 64 = .ok (.bipush 45, 2) := by decide +kernel
theorem dVE_readFrom_66 : decode cVE_readFrom 66 = .ok (.invokevirtual 30, 3) := by decide +kernel
theorem dVE_readFrom_69 : decode cVE_readFrom 69 = .ok (.ifCond .eq 15, 3) := by decide +kernel
theorem dVE_readFrom_72 : decode cVE_readFrom 72 = .ok (.aload_n 0, 1) := by decide +kernel
theorem dVE_readFrom_73 : decode cVE_readFrom 73 = .ok (.aload_n 1, 1) := by decide +kernel
theorem dVE_readFrom_74 : decode cVE_readFrom 74 = .ok (.invokevirtual 44, 3) := by decide +kernel
theorem dVE_readFrom_77 : decode cVE_readFrom 77 = .ok (.ifCond .eq 7, 3) := by decide +kernel
theorem dVE_readFrom_80 : decode cVE_readFrom 80 = .ok (.iconst 1, 1) := by decide +kernel
theorem dVE_readFrom_81 : decode cVE_readFrom 81 = .ok (.goto 4, 3) := by decide +kernel
theorem dVE_readFrom_84 : decode cVE_readFrom 84 = .ok (.iconst 0, 1) := by decide +kernel
theorem dVE_readFrom_85 : decode cVE_readFrom 85 = .ok (.ireturn, 1) := by decide +kernel
theorem dVE_readPre_0 : decode cVE_readPre 0 = .ok (.aload_n 0, 1) := by decide +kernel
theorem dVE_readPre_1 : decode cVE_readPre 1 = .ok (.aload_n 1, 1) := by decide +kernel
theorem dVE_readPre_2 : decode cVE_readPre 2 = .ok (.getfield 48, 3) := by decide +kernel
theorem dVE_readPre_5 : decode cVE_readPre 5 = .ok (.aload_n 1, 1) := by decide +kernel
theorem dVE_readPre_6 : decode cVE_readPre 6 = .ok (.getfield 51, 3) := by decide +kernel
theorem dVE_readPre_9 : decode cVE_readPre 9 = .ok (.isub, 1) := by decide +kernel
theorem dVE_readPre_10 : decode cVE_readPre 10 = .ok (.putfield 13, 3) := by decide +kernel
theorem dVE_readPre_13 : decode cVE_readPre 13 = .ok (.iconst 0, 1) := by decide +kernel
theorem dVE_readPre_14 : decode cVE_readPre 14 = .ok (.istore_n 2, 1) := by decide +kernel
theorem dVE_readPre_15 : decode cVE_readPre 15 = .ok (.iload_n 2, 1) := by decide +kernel
theorem dVE_readPre_16 : decode cVE_readPre 16 = .ok (.iconst 4, 1) := by decide +kernel
theorem dVE_readPre_17 : decode cVE_readPre 17 = .ok (.if_icmp .ge 60, 3) := by decide +kernel
theorem dVE_readPre_20 : decode cVE_readPre 20 = .ok (.iload_n 2, 1) := by decide +kernel
theorem dVE_readPre_21 : decode cVE_readPre 21 = .ok (.ifCond .le 14, 3) := by decide +kernel
theorem dVE_readPre_24 : decode cVE_readPre 24 = .ok (.aload_n 1, 1) := by decide +kernel
theorem dVE_readPre_25 : decode cVE_readPre 25 = .ok (.bipush 46, 2) := by decide +kernel
theorem dVE_readPre_27 : decode cVE_readPre 27 = .ok (.invokevirtual 30, 3) := by decide +kernel
theorem dVE_readPre_30 : decode cVE_readPre 30 = .ok (.ifCond .ne 5, 3) := by decide +kernel
theorem dVE_readPre_33 : decode cVE_readPre 33 = .ok (.iconst 0, 1) := by decide +kernel
theorem dVE_readPre_34 : decode cVE_readPre 34 = .ok (.ireturn, 1) := by decide +kernel
theorem dVE_readPre_35 : decode cVE_readPre 35 = .ok (.aload_n 0, 1) := by decide +kernel
theorem dVE_readPre_36 : decode cVE_readPre 36 = .ok (.getfield 9, 3) := by decide +kernel
theorem dVE_readPre_39 : decode cVE_readPre 39 = .ok (.iconst 3, 1) := by decide +kernel
theorem dVE_readPre_40 : decode cVE_readPre 40 = .ok (.iload_n 2, 1) := by decide +kernel
theorem dVE_readPre_41 : decode cVE_readPre 41 = .ok (.iadd, 1) := by decide +kernel
theorem dVE_readPre_42 : decode cVE_readPre 42 = .ok (.aload_n 1, 1) := by decide +kernel
theorem dVE_readPre_43 : decode cVE_readPre 43 = .ok (.invokevirtual 54, 3) := by decide +kernel
theorem dVE_readPre_46 : decode cVE_readPre 46 = .ok (.lastore, 1) := by decide +kernel
theorem dVE_readPre_47 : decode cVE_readPre 47 = .ok (.aload_n 0, 1) := by decide +kernel
theorem dVE_readPre_48 : decode cVE_readPre 48 = .ok (.getfield 9, 3) := by decide +kernel
theorem dVE_readPre_51 : decode cVE_readPre 51 = .ok (.iconst 3, 1) := by decide +kernel
theorem dVE_readPre_52 : decode cVE_readPre 52 = .ok (.iload_n 2, 1) := by decide +kernel
theorem dVE_readPre_53 : decode cVE_readPre 53 = .ok (.iadd, 1) := by decide +kernel
theorem dVE_readPre_54 : decode cVE_readPre 54 = .ok (.laload, 1) := by decide +kernel
theorem dVE_readPre_55 : decode cVE_readPre 55 = .ok (.lconst 0, 1) := by decide +kernel
theorem dVE_readPre_56 : decode cVE_readPre 56 = .ok (.lcmp, 1) := by decide +kernel
theorem dVE_readPre_57 : decode cVE_readPre 57 = .ok (.ifCond .ge 5, 3) := by decide +kernel
theorem dVE_readPre_60 : decode cVE_readPre 60 = .ok (.iconst 0, 1) := by decide +kernel
theorem dVE_readPre_61 : decode cVE_readPre 61 = .ok (.ireturn, 1) := by decide +kernel
theorem dVE_readPre_62 : decode cVE_readPre 62 = .ok (.aload_n 1, 1) := by decide +kernel
theorem dVE_readPre_63 : decode cVE_readPre 63 = .ok (.invokevirtual 40, 3) := by decide +kernel
theorem dVE_readPre_66 : decode cVE_readPre 66 = .ok (.ifCond .eq 5, 3) := by decide +kernel
theorem dVE_readPre_69 : decode cVE_readPre 69 = .ok (.iconst 1, 1) := by decide +kernel
theorem dVE_readPre_70 : decode cVE_readPre 70 = .ok (.ireturn, 1) := by decide +kernel
theorem dVE_readPre_71 : decode cVE_readPre 71 = .ok (.iinc 2 1, 3) := by decide +kernel
theorem dVE_readPre_74 : decode cVE_readPre 74 = .ok (.goto (-59), 3) := by decide +kernel
theorem dVE_readPre_77 : decode cVE_readPre 77 = .ok (.iconst 0, 1) := by decide +kernel
theorem dVE_readPre_78 : decode cVE_readPre 78 = .ok (.ireturn, 1) := by decide +kernel
end
section
def kcl : List vw_C := [(RRT, TRT, 3), (RTP, TTP, 6), (RVE, TVE, 2), (RVR, TVR, 5), (RMD, TMD, 7), (RMV, TMV, 3), (RMR, TMR, 4), (RST, TST, 4)]
-- base; classes and slots; array classes; the addresses of the enum constants; of the literals; of their bytes
abbrev kG : Type := Nat × va_G × (Nat → ClassId) × (Nat → Nat) × (Nat → Nat) × (Nat → Nat)
def ktys (g : kG) : List (ClassId × FieldType) := [(g.2.2.1 0, .byte), (g.2.2.1 1, .int), (g.2.2.1 2, .long), (g.2.2.1 3, .char), (g.2.2.1 4, .object "VersionRanges$Version"), (g.2.2.1 5, .object "java/lang/String"), (g.2.2.1 6, .object "VersionRangesModel$Version")]
def kEnN : List String := ["ALL", "SAME", "BELOW", "AT_OR_BELOW", "ABOVE", "AT_OR_ABOVE", "CARET", "TILDE"]
def kEnF : List (String × String × String × List Int32) := [("VersionRanges$Sign", "hasBelow", "Z", [1, 0, 1, 1, 0, 0, 0, 0]), ("VersionRanges$Sign", "hasSame", "Z", [1, 1, 0, 1, 0, 1, 1, 1]), ("VersionRanges$Sign", "hasAbove", "Z", [1, 0, 0, 0, 1, 1, 1, 1])]
def kLen : List Nat := [0, 5, 6, 4, 2, 1, 2, 2, 1, 1, 1, 1, 1]
def kByt : List (List Int32) := [[], [110, 101, 101, 100, 115], [98, 114, 101, 97, 107, 115], [111, 119, 110, 115], [124, 124], [42], [60, 61], [62, 61], [60], [62], [94], [126], [61]]
def kLit : List (String × Nat × String × Nat) := [("java/lang/String", 7, "", 0), ("java/lang/StringLatin1", 151, "", 0), ("java/lang/StringUTF16", 295, "", 0), ("VersionRangesModel", 42, "", 0), ("VersionRangesModel", 105, "needs", 1), ("VersionRangesModel", 111, "breaks", 2), ("VersionRangesModel", 113, "owns", 3), ("VersionRangesModel", 125, "||", 4), ("VersionRangesModel", 127, "*", 5), ("VersionRangesModel", 84, "<=", 6), ("VersionRangesModel", 89, ">=", 7), ("VersionRangesModel", 91, "<", 8), ("VersionRangesModel", 93, ">", 9), ("VersionRangesModel", 97, "^", 10), ("VersionRangesModel", 99, "~", 11), ("VersionRangesModel", 95, "=", 12)]
def kZ : List (String × String × String × Int32) := [("java/lang/String", "COMPACT_STRINGS", "Z", 1), ("java/lang/StringUTF16", "$assertionsDisabled", "Z", 1), ("java/lang/StringUTF16", "HI_BYTE_SHIFT", "I", 0), ("java/lang/StringUTF16", "LO_BYTE_SHIFT", "I", 8), ("jdk/internal/util/ArraysSupport", "BIG_ENDIAN", "Z", 0), ("jdk/internal/util/ArraysSupport", "LOG2_ARRAY_BYTE_INDEX_SCALE", "I", 0), ("jdk/internal/util/ArraysSupport", "LOG2_ARRAY_INT_INDEX_SCALE", "I", 2), ("jdk/internal/util/ArraysSupport", "LOG2_ARRAY_LONG_INDEX_SCALE", "I", 3), ("jdk/internal/util/ArraysSupport", "LOG2_BYTE_BIT_SIZE", "I", 3)]
def kZq : List (String × String × String) := [("jdk/internal/util/ArraysSupport", "U", "Ljdk/internal/misc/Unsafe;"), ("jdk/internal/util/Preconditions", "SIOOBE_FORMATTER", "Ljava/util/function/BiFunction;")]
def kAO : List String := ["VersionRanges$Version", "java/lang/String", "VersionRangesModel$Version"]
def kE (g : kG) (U : State) : Prop := va_K g.2.1 kcl (ktys g) U ∧ (∀ w ∈ kNest, va_Nw w U) ∧ va_En "VersionRanges$Sign" "LVersionRanges$Sign;" kEnN kEnF g.2.2.2.1 (fun q => g.1 ≤ q) U U.heap ∧ vk_S 13 kLen kByt g.2.2.2.2.1 g.2.2.2.2.2 (fun q => g.1 ≤ q) U U.heap ∧ (∀ q ∈ kLit, vk_R q.1 q.2.1 q.2.2.1 (g.2.2.2.2.1 q.2.2.2) U) ∧ (∀ q ∈ kZ, va_Z q.1 q.2.1 q.2.2.1 (.int q.2.2.2) (fun q => g.1 ≤ q) U U.heap) ∧ (∀ q ∈ kZq, va_Zq q.1 q.2.1 q.2.2 (fun q => g.1 ≤ q) U U.heap) ∧ (∀ C ∈ kAO, va_AO C U)
theorem nest_warm {w : Cond} (hw : isNestW w = true) {s U : State} (hW : s.WarmedH U.vm) (h : va_Nw w s) : va_Nw w U := by
  cases w <;> first | (cases hw; done) | exact va_Nw.warmF hW h | exact va_Nw.warmM hW h
theorem nest_same {w : Cond} (hw : isNestW w = true) {u U : State} (hv : U.vm = u.vm) (h : va_Nw w u) : va_Nw w U := by
  cases w <;> first | (cases hw; done) | exact va_Nw.same (by decide) hv.symm h | exact va_Nw.same rfl hv.symm h
theorem kE.warm {g : kG} {s U : State} (hW : s.WarmedH U.vm) (hq : ∀ a : Nat, a < s.heap.size → ¬ g.1 ≤ a → U.heap[a]? = s.heap[a]?) (h : kE g s) : kE g U := by
  obtain ⟨h1, h2, h3, h4, h5, h6, h7, h8⟩ := h
  exact ⟨va_K.moved hW.alike h1, fun w hw => nest_warm (List.mem_filter.mp hw).2 hW (h2 w hw), (h3.moved hW.alike).kept hq, (h4.moved hW.alike).kept hq, fun q hq1 => vk_R.warm hW (h5 q hq1), fun q hq1 => ((h6 q hq1).moved hW.alike).kept hq, fun q hq1 => ((h7 q hq1).moved hW.alike).kept hq, fun C hC => va_AO.moved hW.alike (h8 C hC)⟩
theorem kE.same {g : kG} {u U : State} (hv : U.vm = u.vm) (hh : U.heap = u.heap) (h : kE g u) : kE g U := by
  obtain ⟨h1, h2, h3, h4, h5, h6, h7, h8⟩ := h
  have ha : u.vm.Alike U.vm := by rw [hv]; exact Vm.Alike.refl _
  have hq : ∀ a : Nat, a < u.heap.size → ¬ g.1 ≤ a → U.heap[a]? = u.heap[a]? := fun a _ _ => by rw [hh]
  exact ⟨va_K.moved ha h1, fun w hw => nest_same (List.mem_filter.mp hw).2 hv (h2 w hw), (h3.moved ha).kept hq, (h4.moved ha).kept hq, fun q hq1 => vk_R.same hv (h5 q hq1), fun q hq1 => ((h6 q hq1).moved ha).kept hq, fun q hq1 => ((h7 q hq1).moved ha).kept hq, fun C hC => va_AO.moved ha (h8 C hC)⟩
-- A memory: a map from addresses to cells; the heap's own picture of it (own rows; no rows of the kit stand here, only uses of them)
abbrev km_M : Type := Nat → Option va_E
def km_up (μ : km_M) (a : Nat) (e : va_E) : km_M := fun x => if x = a then some e else μ x
theorem km_s (μ : km_M) (a : Nat) (e : va_E) : km_up μ a e a = some e := if_pos rfl
theorem km_n {μ : km_M} {a b : Nat} {e : va_E} (h : b ≠ a) : km_up μ a e b = μ b := if_neg h
theorem km_id {μ : km_M} {a : Nat} {e : va_E} (h : μ a = some e) : km_up μ a e = μ := by
  funext x
  simp only [km_up]
  split
  · rename_i hx
    rw [hx, h]
  · rfl
theorem km_u1 (μ : km_M) (a : Nat) (e e' : va_E) : km_up (km_up μ a e) a e' = km_up μ a e' := by
  funext x
  simp only [km_up]
  split <;> rfl
theorem km_uc (μ : km_M) {a b : Nat} (e e' : va_E) (h : a ≠ b) : km_up (km_up μ a e) b e' = km_up (km_up μ b e') a e := by
  funext x
  simp only [km_up]
  by_cases h1 : x = a
  · have h2 : ¬ x = b := fun z => h (h1.symm.trans z)
    rw [if_neg h2, if_pos h1, if_pos h1]
  · rw [if_neg h1, if_neg h1]
theorem km_u2 (μ : km_M) {a b : Nat} (e e' e2 : va_E) (h : a ≠ b) : km_up (km_up (km_up μ a e) b e2) a e' = km_up (km_up μ a e') b e2 := by
  rw [km_uc (km_up μ a e) e2 e' (Ne.symm h), km_u1]
theorem km_u3 (μ : km_M) {a b c : Nat} (e e' e2 e3 : va_E) (h : a ≠ b) (h2 : a ≠ c) : km_up (km_up (km_up (km_up μ a e) b e2) c e3) a e' = km_up (km_up (km_up μ a e') b e2) c e3 := by
  rw [km_uc (km_up (km_up μ a e) b e2) e3 e' (Ne.symm h2), km_u2 μ e e' e2 h]
theorem km_u4 (μ : km_M) {a b c d : Nat} (e e' e2 e3 e4 : va_E) (h : a ≠ b) (h2 : a ≠ c) (h3 : a ≠ d) : km_up (km_up (km_up (km_up (km_up μ a e) b e2) c e3) d e4) a e' = km_up (km_up (km_up (km_up μ a e') b e2) c e3) d e4 := by
  rw [km_uc (km_up (km_up (km_up μ a e) b e2) c e3) e4 e' (Ne.symm h3), km_u3 μ e e' e2 e3 h h2]
/-- two cells of other content lie apart -/
theorem km_ap {μ : km_M} {a b : Nat} {x y : va_E} (ha : μ a = some x) (hb : μ b = some y) (h : x ≠ y) : a ≠ b := by
  intro z
  subst z
  rw [ha] at hb
  exact h (Option.some.inj hb)
theorem km_apA {μ : km_M} {a b : Nat} {x : ClassId × vp_A} {y : Nat × List Value} (ha : μ a = some (.inl x)) (hb : μ b = some (.inr y)) : a ≠ b := km_ap ha hb (fun h => by cases h)
theorem km_apB {μ : km_M} {a b : Nat} {x : ClassId × vp_A} {y : Nat × List Value} (ha : μ a = some (.inr y)) (hb : μ b = some (.inl x)) : a ≠ b := km_ap ha hb (fun h => by cases h)
theorem km_apC {μ : km_M} {a b i j : Nat} {x y : List Value} (ha : μ a = some (.inr (i, x))) (hb : μ b = some (.inr (j, y))) (h : i ≠ j) : a ≠ b := km_ap ha hb (fun z => by cases z; exact h rfl)
theorem km_apN {μ : km_M} {a b n k : Nat} {c d : ClassId} {x y : (Nat → Int32) ⊕ (Nat → Int64) ⊕ (Nat → UInt32) ⊕ (Nat → UInt64) ⊕ (Nat → Option Nat)} (ha : μ a = some (.inl (c, n, x))) (hb : μ b = some (.inl (d, k, y))) (h : n ≠ k) : a ≠ b := km_ap ha hb (fun z => by cases z; exact h rfl)
/-- an address that holds nothing yet lies apart from all that hold something -/
theorem km_apF {μ : km_M} {a b : Nat} {x : va_E} (ha : μ a = some x) (hb : μ b = none) : a ≠ b := by
  intro z
  subst z
  rw [ha] at hb
  cases hb
def km_rep (ws : va_W) (μ : km_M) : Prop := ∀ (a : Nat) (e : va_E), μ a = some e ↔ ∃ k : Nat, ws[k]? = some (a, e)
theorem km_lt {ws : va_W} {k : Nat} {q : Nat × va_E} (h : ws[k]? = some q) : k < ws.length := by
  rcases Nat.lt_or_ge k ws.length with h1 | h1
  · exact h1
  · rw [List.getElem?_eq_none h1] at h
    cases h
theorem km_rep_set {A : Nat → Prop} {ws : va_W} {μ : km_M} {q0 a : Nat} {e0 e : va_E} (hr : km_rep ws μ) (hD : va_D A ws) (hq : ws[q0]? = some (a, e0)) : km_rep (ws.set q0 (a, e)) (km_up μ a e) := by
  have hlt := km_lt hq
  intro b x
  by_cases hb : b = a
  · rw [hb, km_s]
    constructor
    · intro h
      cases h
      exact ⟨q0, by rw [List.getElem?_set_self hlt]⟩
    · rintro ⟨k, hk⟩
      by_cases hkq : q0 = k
      · rw [← hkq, List.getElem?_set_self hlt] at hk
        cases hk
        rfl
      · rw [List.getElem?_set_ne hkq] at hk
        exact absurd (hD.1 _ _ _ _ hq hk rfl) hkq
  · rw [km_n hb, hr b x]
    constructor
    · rintro ⟨k, hk⟩
      refine ⟨k, ?_⟩
      have hne : q0 ≠ k := by
        intro h
        rw [← h, hq] at hk
        cases hk
        exact hb rfl
      rw [List.getElem?_set_ne hne]
      exact hk
    · rintro ⟨k, hk⟩
      refine ⟨k, ?_⟩
      by_cases hkq : q0 = k
      · rw [← hkq, List.getElem?_set_self hlt] at hk
        cases hk
        exact absurd rfl hb
      · rw [List.getElem?_set_ne hkq] at hk
        exact hk
theorem km_rep_new {A : Nat → Prop} {ws : va_W} {μ : km_M} {q : Nat} {e : va_E} (hr : km_rep ws μ) (hD : va_D A (ws ++ [(q, e)])) : km_rep (ws ++ [(q, e)]) (km_up μ q e) ∧ μ q = none := by
  have hlast : (ws ++ [(q, e)])[ws.length]? = some (q, e) := by
    rw [List.getElem?_append_right (Nat.le_refl _), Nat.sub_self]
    rfl
  have hfresh : ∀ (k : Nat) (x : va_E), ¬ ws[k]? = some (q, x) := by
    intro k x hk
    have h1 : (ws ++ [(q, e)])[k]? = some (q, x) := by
      rw [List.getElem?_append_left (km_lt hk)]
      exact hk
    have h2 := hD.1 _ _ _ _ h1 hlast rfl
    have h3 := km_lt hk
    omega
  constructor
  · intro b x
    by_cases hb : b = q
    · rw [hb, km_s]
      constructor
      · intro h
        cases h
        exact ⟨ws.length, hlast⟩
      · rintro ⟨k, hk⟩
        have h2 := hD.1 _ _ _ _ hk hlast rfl
        rw [h2, hlast] at hk
        cases hk
        rfl
    · rw [km_n hb, hr b x]
      constructor
      · rintro ⟨k, hk⟩
        refine ⟨k, ?_⟩
        rw [List.getElem?_append_left (km_lt hk)]
        exact hk
      · rintro ⟨k, hk⟩
        refine ⟨k, ?_⟩
        rcases Nat.lt_or_ge k ws.length with h1 | h1
        · rw [List.getElem?_append_left h1] at hk
          exact hk
        · have h2 := km_lt hk
          rw [List.length_append] at h2
          have h3 : k = ws.length := by
            simp only [List.length_cons, List.length_nil] at h2
            omega
          rw [h3, hlast] at hk
          cases hk
          exact absurd rfl hb
  · cases hx : μ q with
    | none => rfl
    | some x =>
      obtain ⟨k, hk⟩ := (hr q x).mp hx
      exact absurd hk (hfresh k x)
end
section
-- the picture of the machine at a method's place: environment, memory, frame
def kR (g : kG) (μ : km_M) (H : Heap) : Prop := ∃ ws : va_W, va_P g.2.1 kcl ws H ∧ va_D (fun q => g.1 ≤ q) ws ∧ km_rep ws μ
def kS (g : kG) (μ : km_M) (s : State) (H : Heap) (locs : List Loc) : Prop := g.1 ≤ s.heap.size ∧ kE g s ∧ kR g μ H ∧ va_S (fun q => g.1 ≤ q) s.heap H locs
def kPre (g : kG) (μ : km_M) (av : List Value) : Array Value → State → Prop := va_Pc av (fun U => g.1 ≤ U.heap.size ∧ kE g U ∧ kR g μ U.heap)
abbrev kQi (g : kG) (post : Int32 → km_M → Prop) : Array Value → State → Outcome → State → Prop := va_Qi post (fun μ' t => kR g μ' t.heap) (fun q => g.1 ≤ q)
abbrev kQl (g : kG) (post : Int64 → km_M → Prop) : Array Value → State → Outcome → State → Prop := va_Ql post (fun μ' t => kR g μ' t.heap) (fun q => g.1 ≤ q)
abbrev kQv (g : kG) (post : km_M → Prop) : Array Value → State → Outcome → State → Prop := va_Qv post (fun μ' t => kR g μ' t.heap) (fun q => g.1 ≤ q)
abbrev kQr (g : kG) (post : Nat → km_M → Prop) : Array Value → State → Outcome → State → Prop := va_Qr (S := km_M) (fun _ => True) (fun μ' a t => post a μ' ∧ kR g μ' t.heap) (fun q => g.1 ≤ q)
abbrev kQq (g : kG) (post : Option Nat → km_M → Prop) : Array Value → State → Outcome → State → Prop := va_Qq post (fun μ' t => kR g μ' t.heap) (fun q => g.1 ≤ q)
abbrev kF (g : kG) : Nat → Prop := fun q => g.1 ≤ q
theorem kS_eq {g : kG} {μ μ1 : km_M} {s : State} {H : Heap} {locs : List Loc} (h : μ = μ1) (hM : kS g μ s H locs) : kS g μ1 s H locs := by subst h; exact hM
theorem kPre_blind {g : kG} {μ : km_M} {av : List Value} : FrameBlind (kPre g μ av) := fun a U gg mk q => ⟨q.1, q.2.1, kE.same (u := U) (U := U.calling gg mk a) rfl rfl q.2.2.1, q.2.2.2⟩
theorem k_preS {g : kG} {μ : km_M} {s : State} {H : Heap} {locs : List Loc} {av : List Value} (hM : kS g μ s H locs) : PreS s H (kPre g μ av) av :=
  ⟨kPre_blind, fun U hU hW => ⟨rfl, by rw [hU]; exact Nat.le_trans hM.1 hM.2.2.2.1, kE.warm hW (by rw [hU]; exact hM.2.2.2.2.1) hM.2.1, by rw [hU]; exact hM.2.2.1⟩⟩
theorem k_recv {g : kG} {μ : km_M} {s : State} {H : Heap} {locs : List Loc} {b ci : Nat} {fs : List Value} {q : vw_C} (hM : kS g μ s H locs) (he : μ b = some (.inr (ci, fs))) (hc : kcl[ci]? = some q) : ∃ cell : Cell, H[b]? = some cell ∧ cell.vm.isStatics = false ∧ s.vm.findClass q.1 = some cell.cls := by
  obtain ⟨ws, hP, hD, hr⟩ := hM.2.2.1
  obtain ⟨q0, hq⟩ := (hr _ _).mp he
  exact va_recv hM.2.1.1 hP hc hq
theorem k_preV {g : kG} {μ : km_M} {s : State} {H : Heap} {locs : List Loc} {b ci : Nat} {fs : List Value} {q : vw_C} {As : List Value} (hM : kS g μ s H locs) (he : μ b = some (.inr (ci, fs))) (hc : kcl[ci]? = some q) : PreV s H q.1 b (kPre g μ (.ref b :: As)) As :=
  ⟨kPre_blind, k_recv hM he hc, (k_preS hM).2⟩
theorem k_lt {g : kG} {μ : km_M} {s : State} {H : Heap} {locs : List Loc} {b : Nat} {e : va_E} (hM : kS g μ s H locs) (he : μ b = some e) : b < H.size := by
  obtain ⟨ws, hP, hD, hr⟩ := hM.2.2.1
  obtain ⟨q0, hq⟩ := (hr _ _).mp he
  exact (hP q0 _ hq).lt
theorem k_good {X : List Cond} (h : ∀ w ∈ X, w ∈ Wd) : GoodIn Wd X := fun w hw => ⟨h w hw, Wd_good w (h w hw)⟩
/-- a contract: from the body's walk -/
theorem k_met {l : Launch} {g : kG} {μ : km_M} {av : List Value} {y : MethodName} {rm : Room} {Qc : Array Value → State → Outcome → State → Prop} {mc ms : Nat} {free : Addr → Prop} {cc : ByteArray} {maxL : Nat} {ret : Option FieldType}
    (hy : plainName y.cls = true) (hl : (lg_sl av).length ≤ maxL)
    (body : ∀ (p : Program) (e : Env) (s : State) (m : MethodId) (below : List Frame) (meth : Method) (c : Code), p.tables.exec = Jvm.exec → c.code = cc → meth.sig.returnType = ret → meth.locks = false → c.maxLocals = maxL → s.vm.findClass y.cls = some m.cls → meth.name = y.name →
      (∀ w ∈ Wd, w.before av.toArray s = true) → ∀ ls : Array Slot, lv_has ls maxL (lv_args 0 av) → ∀ (H : Heap) (locs : List Loc), kS g μ s H locs →
      W p l e rm s m av.toArray below meth c H locs 0 0 (MQ below Qc av.toArray s mc ms free) (F0 m 0 ls [])) : Met l y (Cond.code y cc maxL ret :: Wd) rm (kPre g μ av) Qc mc ms free := by
  refine Met.ofW (cc := cc) (maxL := maxL) (ret := ret) hy rfl ?_
  intro p e s m args below meth c s₁ B hml hv
  obtain ⟨rfl, hb0, hE, hR⟩ := hv
  have hts := atoms_spec (ws := Cond.code y cc maxL ret :: Wd) B.pre
  rw [lg_entry_eq]
  exact body p e s m below meth c B.exec B.bytes B.returns B.notSynchronized hml (findClass_of_methodNamed B.named) (name_of_methodNamed B.named B.method).1 (fun w hw => hts w (List.mem_cons_of_mem _ hw)) _ (lv_entry av hl) _ _ ⟨hb0, hE, hR, va_S.rf⟩
section KW
variable {p : Program} {l : Launch} {e : Env} {R : Room} {s : State} {m : MethodId} {args : Array Value} {below : List Frame} {meth : Method} {c : Code} {H : Heap} {locs : List Loc} {cells slots : Nat} {Q : State → Prop}
variable {cc : ByteArray} {pc : Nat} {ls : Array Slot} {rest : List Value} {g : kG} {μ : km_M} {a : Nat}
-- reads
theorem k_get (hx : p.tables.exec = Jvm.exec) (hb : c.code = cc) {own ref C : String} {T : u_T} {N ci index : Nat} (hW : ∀ w ∈ Wd, w.before args s = true) (hin : ∀ w ∈ u_ws C T N, w ∈ Wd) (hown : s.vm.findClass own = some m.cls) (hM : kS g μ s H locs) {fs : List Value} (he : μ a = some (.inr (ci, fs))) (hc : kcl[ci]? = some (C, T, N)) (k : Nat) (hk : k < N) (hlink : (Cond.fieldLink own index ref (T k).2.1 (T k).2.2.1).before args s = true) (hsame : ∀ x, s.fieldFound? (T k).1 (T k).2.1 (T k).2.2.1 = some x → s.fieldFound? ref (T k).2.1 (T k).2.2.1 = some x) {v : Value} (hv : fs[k]? = some v) (hdg : decode cc pc = .ok (.getfield index, 3))
    (kk : W p l e R s m args below meth c H locs cells slots Q (F0 m (pc + 3) ls (v :: rest))) : W p l e R s m args below meth c H locs cells slots Q (F0 m pc ls (.ref a :: rest)) := by
  obtain ⟨ws, hP, hD, hr⟩ := hM.2.2.1
  obtain ⟨q0, hq⟩ := (hr _ _).mp he
  exact va_get hx hb hW hin hown hM.2.1.1 hP q0 hq hc k hk hlink hsame hv hdg kk
theorem k_getN (hx : p.tables.exec = Jvm.exec) (hb : c.code = cc) {own ref C host : String} {T : u_T} {N ci index : Nat} (hW : ∀ w ∈ Wd, w.before args s = true) (hin : ∀ w ∈ u_ws C T N, w ∈ Wd) (hown : s.vm.findClass own = some m.cls) (hM : kS g μ s H locs) {fs : List Value} (he : μ a = some (.inr (ci, fs))) (hc : kcl[ci]? = some (C, T, N)) (k : Nat) (hk : k < N) (hlink : (Cond.fieldLinkNest own index ref (T k).2.1 (T k).2.2.1 host).before args s = true) (hsame : ∀ x, s.fieldFound? (T k).1 (T k).2.1 (T k).2.2.1 = some x → s.fieldFound? ref (T k).2.1 (T k).2.2.1 = some x) {v : Value} (hv : fs[k]? = some v) (hdg : decode cc pc = .ok (.getfield index, 3))
    (kk : W p l e R s m args below meth c H locs cells slots Q (F0 m (pc + 3) ls (v :: rest))) : W p l e R s m args below meth c H locs cells slots Q (F0 m pc ls (.ref a :: rest)) := by
  obtain ⟨ws, hP, hD, hr⟩ := hM.2.2.1
  obtain ⟨q0, hq⟩ := (hr _ _).mp he
  exact va_getN hx hb hW hin hown hM.2.1.1 hP q0 hq hc k hk hlink hsame hv hdg kk
theorem k_iald (hx : p.tables.exec = Jvm.exec) (hb : c.code = cc) (hM : kS g μ s H locs) (t0 : Nat) {cA : ClassId} {n : Nat} {f : Nat → Int32} (ha : μ a = some (.inl (cA, n, .inl f))) (ht : (ktys g)[t0]? = some (cA, .int)) {i : Nat} (hi : i < n) (hn : n < 2 ^ 31) (hdg : decode cc pc = .ok (.iaload, 1))
    (kk : W p l e R s m args below meth c H locs cells slots Q (F0 m (pc + 1) ls (.int (f i) :: rest))) : W p l e R s m args below meth c H locs cells slots Q (F0 m pc ls (.int (nI i) :: .ref a :: rest)) := by
  obtain ⟨ws, hP, hD, hr⟩ := hM.2.2.1
  obtain ⟨q0, hq⟩ := (hr _ _).mp ha
  refine va_iald hx hb hM.2.1.1 hP q0 t0 hq ht (vp_in_nI hi hn) hdg ?_
  rw [nI_clamp (by omega)]
  exact kk
theorem k_bald (hx : p.tables.exec = Jvm.exec) (hb : c.code = cc) (hM : kS g μ s H locs) (t0 : Nat) {cA : ClassId} {n : Nat} {f : Nat → Int32} (ha : μ a = some (.inl (cA, n, .inl f))) (ht : (ktys g)[t0]? = some (cA, .byte)) {i : Nat} (hi : i < n) (hn : n < 2 ^ 31) (hdg : decode cc pc = .ok (.baload, 1))
    (kk : W p l e R s m args below meth c H locs cells slots Q (F0 m (pc + 1) ls (.int (f i) :: rest))) : W p l e R s m args below meth c H locs cells slots Q (F0 m pc ls (.int (nI i) :: .ref a :: rest)) := by
  obtain ⟨ws, hP, hD, hr⟩ := hM.2.2.1
  obtain ⟨q0, hq⟩ := (hr _ _).mp ha
  refine va_bald hx hb hM.2.1.1 hP q0 t0 hq ht (vp_in_nI hi hn) hdg ?_
  rw [nI_clamp (by omega)]
  exact kk
theorem k_cald (hx : p.tables.exec = Jvm.exec) (hb : c.code = cc) (hM : kS g μ s H locs) (t0 : Nat) {cA : ClassId} {n : Nat} {f : Nat → Int32} (ha : μ a = some (.inl (cA, n, .inl f))) (ht : (ktys g)[t0]? = some (cA, .char)) {i : Nat} (hi : i < n) (hn : n < 2 ^ 31) (hdg : decode cc pc = .ok (.caload, 1))
    (kk : W p l e R s m args below meth c H locs cells slots Q (F0 m (pc + 1) ls (.int (f i) :: rest))) : W p l e R s m args below meth c H locs cells slots Q (F0 m pc ls (.int (nI i) :: .ref a :: rest)) := by
  obtain ⟨ws, hP, hD, hr⟩ := hM.2.2.1
  obtain ⟨q0, hq⟩ := (hr _ _).mp ha
  refine va_cald hx hb hM.2.1.1 hP q0 t0 hq ht (vp_in_nI hi hn) hdg ?_
  rw [nI_clamp (by omega)]
  exact kk
theorem k_lald (hx : p.tables.exec = Jvm.exec) (hb : c.code = cc) (hM : kS g μ s H locs) (t0 : Nat) {cA : ClassId} {n : Nat} {f : Nat → Int64} (ha : μ a = some (.inl (cA, n, .inr (.inl f)))) (ht : (ktys g)[t0]? = some (cA, .long)) {i : Nat} (hi : i < n) (hn : n < 2 ^ 31) (hdg : decode cc pc = .ok (.laload, 1))
    (kk : W p l e R s m args below meth c H locs cells slots Q (F0 m (pc + 1) ls (.long (f i) :: rest))) : W p l e R s m args below meth c H locs cells slots Q (F0 m pc ls (.int (nI i) :: .ref a :: rest)) := by
  obtain ⟨ws, hP, hD, hr⟩ := hM.2.2.1
  obtain ⟨q0, hq⟩ := (hr _ _).mp ha
  refine va_lald hx hb hM.2.1.1 hP q0 t0 hq ht (vp_in_nI hi hn) hdg ?_
  rw [nI_clamp (by omega)]
  exact kk
theorem k_aald (hx : p.tables.exec = Jvm.exec) (hb : c.code = cc) (hM : kS g μ s H locs) (t0 : Nat) {cA : ClassId} {C : String} {n : Nat} {f : Nat → Option Nat} (ha : μ a = some (.inl (cA, n, .inr (.inr (.inr (.inr f)))))) (ht : (ktys g)[t0]? = some (cA, .object C)) {i : Nat} (hi : i < n) (hn : n < 2 ^ 31) {r : Option Nat} (hf : f i = r) (hdg : decode cc pc = .ok (.aaload, 1))
    (kk : W p l e R s m args below meth c H locs cells slots Q (F0 m (pc + 1) ls (va_rf r :: rest))) : W p l e R s m args below meth c H locs cells slots Q (F0 m pc ls (.int (nI i) :: .ref a :: rest)) := by
  obtain ⟨ws, hP, hD, hr⟩ := hM.2.2.1
  obtain ⟨q0, hq⟩ := (hr _ _).mp ha
  refine va_aldq hx hb hM.2.1.1 hP q0 t0 hq ht (vp_in_nI hi hn) hdg ?_
  rw [nI_clamp (by omega), hf]
  exact kk
theorem k_alen (hx : p.tables.exec = Jvm.exec) (hb : c.code = cc) (hM : kS g μ s H locs) (t0 : Nat) {cA : ClassId} {x : vp_A} (ha : μ a = some (.inl (cA, x))) {ty : FieldType} (ht : (ktys g)[t0]? = some (cA, ty)) (hdg : decode cc pc = .ok (.arraylength, 1))
    (kk : W p l e R s m args below meth c H locs cells slots Q (F0 m (pc + 1) ls (.int (nI x.1) :: rest))) : W p l e R s m args below meth c H locs cells slots Q (F0 m pc ls (.ref a :: rest)) := by
  obtain ⟨ws, hP, hD, hr⟩ := hM.2.2.1
  obtain ⟨q0, hq⟩ := (hr _ _).mp ha
  exact va_alen hx hb hM.2.1.1 hP q0 t0 hq ht rfl hdg kk
-- writes
theorem kS.set {g : kG} {μ : km_M} {s : State} {H H1 : Heap} {locs locs1 : List Loc} {a q0 : Nat} {e0 e : va_E} {ws : va_W} (hM : kS g μ s H locs) (hD : va_D (fun q => g.1 ≤ q) ws) (hr : km_rep ws μ) (hq : ws[q0]? = some (a, e0)) (hP1 : va_P g.2.1 kcl (ws.set q0 (a, e)) H1) (hD1 : va_D (fun q => g.1 ≤ q) (ws.set q0 (a, e))) (hS1 : va_S (fun q => g.1 ≤ q) s.heap H1 locs1) : kS g (km_up μ a e) s H1 locs1 :=
  ⟨hM.1, hM.2.1, ⟨_, hP1, hD1, km_rep_set hr hD hq⟩, hS1⟩
theorem k_put (hx : p.tables.exec = Jvm.exec) (hb : c.code = cc) {own ref C : String} {T : u_T} {N ci index : Nat} (hW : ∀ w ∈ Wd, w.before args s = true) (hin : ∀ w ∈ u_ws C T N, w ∈ Wd) (ty0 : Nat → FieldType) (hty : ∀ k, k < N → parseFieldDescriptor (T k).2.2.1 = some (ty0 k)) (hnm : ∀ a, a < N → ∀ b, b < N → a ≠ b → (T a).2.1 ≠ (T b).2.1) (hown : s.vm.findClass own = some m.cls) (hM : kS g μ s H locs) {fs : List Value} (he : μ a = some (.inr (ci, fs))) (hc : kcl[ci]? = some (C, T, N)) (k : Nat) (hk : k < N) (hlink : (Cond.fieldLink own index ref (T k).2.1 (T k).2.2.1).before args s = true) (hsame : ∀ x, s.fieldFound? (T k).1 (T k).2.1 (T k).2.2.1 = some x → s.fieldFound? ref (T k).2.1 (T k).2.2.1 = some x) (hfin : (T k).2.2.2 = false) {ty : FieldType} {v : Value} (hd : parseFieldDescriptor (T k).2.2.1 = some ty) (hn : narrow ty v = v) (hfit : fits ty v = true) (hl : k < fs.length)
    (hdg : decode cc pc = .ok (.putfield index, 3)) {fs' : List Value} (hfs : fs.set k v = fs') (kk : ∀ (H1 : Heap) (locs1 : List Loc), kS g (km_up μ a (.inr (ci, fs'))) s H1 locs1 → W p l e R s m args below meth c H1 locs1 cells slots Q (F0 m (pc + 3) ls rest)) : W p l e R s m args below meth c H locs cells slots Q (F0 m pc ls (v :: .ref a :: rest)) := by
  subst hfs
  obtain ⟨ws, hP, hD, hr⟩ := hM.2.2.1
  obtain ⟨q0, hq⟩ := (hr _ _).mp he
  exact va_put hx hb hW hin ty0 hty hnm hown hM.2.1.1 hP hD hM.2.2.2 q0 hq hc k hk hlink hsame hfin hd hn hfit hl hdg (fun H1 locs1 hP1 hD1 hS1 => kk H1 locs1 (hM.set hD hr hq hP1 hD1 hS1))
theorem k_putN (hx : p.tables.exec = Jvm.exec) (hb : c.code = cc) {own ref C host : String} {T : u_T} {N ci index : Nat} (hW : ∀ w ∈ Wd, w.before args s = true) (hin : ∀ w ∈ u_ws C T N, w ∈ Wd) (ty0 : Nat → FieldType) (hty : ∀ k, k < N → parseFieldDescriptor (T k).2.2.1 = some (ty0 k)) (hnm : ∀ a, a < N → ∀ b, b < N → a ≠ b → (T a).2.1 ≠ (T b).2.1) (hown : s.vm.findClass own = some m.cls) (hM : kS g μ s H locs) {fs : List Value} (he : μ a = some (.inr (ci, fs))) (hc : kcl[ci]? = some (C, T, N)) (k : Nat) (hk : k < N) (hlink : (Cond.fieldLinkNest own index ref (T k).2.1 (T k).2.2.1 host).before args s = true) (hsame : ∀ x, s.fieldFound? (T k).1 (T k).2.1 (T k).2.2.1 = some x → s.fieldFound? ref (T k).2.1 (T k).2.2.1 = some x) (hfin : (T k).2.2.2 = false) {ty : FieldType} {v : Value} (hd : parseFieldDescriptor (T k).2.2.1 = some ty) (hn : narrow ty v = v) (hfit : fits ty v = true) (hl : k < fs.length)
    (hdg : decode cc pc = .ok (.putfield index, 3)) {fs' : List Value} (hfs : fs.set k v = fs') (kk : ∀ (H1 : Heap) (locs1 : List Loc), kS g (km_up μ a (.inr (ci, fs'))) s H1 locs1 → W p l e R s m args below meth c H1 locs1 cells slots Q (F0 m (pc + 3) ls rest)) : W p l e R s m args below meth c H locs cells slots Q (F0 m pc ls (v :: .ref a :: rest)) := by
  subst hfs
  obtain ⟨ws, hP, hD, hr⟩ := hM.2.2.1
  obtain ⟨q0, hq⟩ := (hr _ _).mp he
  exact va_putN hx hb hW hin ty0 hty hnm hown hM.2.1.1 hP hD hM.2.2.2 q0 hq hc k hk hlink hsame hfin hd hn hfit hl hdg (fun H1 locs1 hP1 hD1 hS1 => kk H1 locs1 (hM.set hD hr hq hP1 hD1 hS1))
theorem k_putF (hx : p.tables.exec = Jvm.exec) (hb : c.code = cc) {own ref C : String} {T : u_T} {N ci index : Nat} (hW : ∀ w ∈ Wd, w.before args s = true) (hin : ∀ w ∈ u_ws C T N, w ∈ Wd) (ty0 : Nat → FieldType) (hty : ∀ k, k < N → parseFieldDescriptor (T k).2.2.1 = some (ty0 k)) (hnm : ∀ a, a < N → ∀ b, b < N → a ≠ b → (T a).2.1 ≠ (T b).2.1) (hown : s.vm.findClass own = some m.cls) (hM : kS g μ s H locs) {fs : List Value} (he : μ a = some (.inr (ci, fs))) (hc : kcl[ci]? = some (C, T, N)) (k : Nat) (hk : k < N) (hlink : (Cond.fieldLink own index ref (T k).2.1 (T k).2.2.1).before args s = true) (hsame : ∀ x, s.fieldFound? (T k).1 (T k).2.1 (T k).2.2.1 = some x → s.fieldFound? ref (T k).2.1 (T k).2.2.1 = some x) (hfin : (T k).2.2.2 = true) (hin2 : meth.name = "<init>") (hdecl : (T k).1 = own) {ty : FieldType} {v : Value} (hd : parseFieldDescriptor (T k).2.2.1 = some ty) (hn : narrow ty v = v) (hfit : fits ty v = true) (hl : k < fs.length)
    (hdg : decode cc pc = .ok (.putfield index, 3)) {fs' : List Value} (hfs : fs.set k v = fs') (kk : ∀ (H1 : Heap) (locs1 : List Loc), kS g (km_up μ a (.inr (ci, fs'))) s H1 locs1 → W p l e R s m args below meth c H1 locs1 cells slots Q (F0 m (pc + 3) ls rest)) : W p l e R s m args below meth c H locs cells slots Q (F0 m pc ls (v :: .ref a :: rest)) := by
  subst hfs
  obtain ⟨ws, hP, hD, hr⟩ := hM.2.2.1
  obtain ⟨q0, hq⟩ := (hr _ _).mp he
  exact va_putF hx hb hW hin ty0 hty hnm hown hM.2.1.1 hP hD hM.2.2.2 q0 hq hc k hk hlink hsame hfin hin2 hdecl hd hn hfit hl hdg (fun H1 locs1 hP1 hD1 hS1 => kk H1 locs1 (hM.set hD hr hq hP1 hD1 hS1))
theorem k_iast (hx : p.tables.exec = Jvm.exec) (hb : c.code = cc) (hM : kS g μ s H locs) (t0 : Nat) {cA : ClassId} {n : Nat} {f f1 : Nat → Int32} (ha : μ a = some (.inl (cA, n, .inl f))) (ht : (ktys g)[t0]? = some (cA, .int)) {i : Nat} {x : Int32} (hi : i < n) (hn : n < 2 ^ 31) (hf : upd f i x = f1) (hdg : decode cc pc = .ok (.iastore, 1))
    (kk : ∀ (H1 : Heap) (locs1 : List Loc), kS g (km_up μ a (.inl (cA, n, .inl f1))) s H1 locs1 → W p l e R s m args below meth c H1 locs1 cells slots Q (F0 m (pc + 1) ls rest)) : W p l e R s m args below meth c H locs cells slots Q (F0 m pc ls (.int x :: .int (nI i) :: .ref a :: rest)) := by
  subst hf
  obtain ⟨ws, hP, hD, hr⟩ := hM.2.2.1
  obtain ⟨q0, hq⟩ := (hr _ _).mp ha
  refine va_iast hx hb hM.2.1.1 hP hD hM.2.2.2 q0 t0 hq ht (vp_in_nI hi hn) hdg (fun H1 locs1 hP1 hD1 hS1 => kk H1 locs1 (hM.set hD hr hq ?_ ?_ hS1))
  · rw [nI_clamp (by omega)] at hP1
    exact hP1
  · rw [nI_clamp (by omega)] at hD1
    exact hD1
theorem k_bast (hx : p.tables.exec = Jvm.exec) (hb : c.code = cc) (hM : kS g μ s H locs) (t0 : Nat) {cA : ClassId} {n : Nat} {f f1 : Nat → Int32} (ha : μ a = some (.inl (cA, n, .inl f))) (ht : (ktys g)[t0]? = some (cA, .byte)) {i : Nat} {x : Int32} (hi : i < n) (hn : n < 2 ^ 31) (hf : upd f i (vp_nar .byte x) = f1) (hdg : decode cc pc = .ok (.bastore, 1))
    (kk : ∀ (H1 : Heap) (locs1 : List Loc), kS g (km_up μ a (.inl (cA, n, .inl f1))) s H1 locs1 → W p l e R s m args below meth c H1 locs1 cells slots Q (F0 m (pc + 1) ls rest)) : W p l e R s m args below meth c H locs cells slots Q (F0 m pc ls (.int x :: .int (nI i) :: .ref a :: rest)) := by
  subst hf
  obtain ⟨ws, hP, hD, hr⟩ := hM.2.2.1
  obtain ⟨q0, hq⟩ := (hr _ _).mp ha
  refine va_bast hx hb hM.2.1.1 hP hD hM.2.2.2 q0 t0 hq ht (vp_in_nI hi hn) hdg (fun H1 locs1 hP1 hD1 hS1 => kk H1 locs1 (hM.set hD hr hq ?_ ?_ hS1))
  · rw [nI_clamp (by omega)] at hP1
    exact hP1
  · rw [nI_clamp (by omega)] at hD1
    exact hD1
theorem k_cast (hx : p.tables.exec = Jvm.exec) (hb : c.code = cc) (hM : kS g μ s H locs) (t0 : Nat) {cA : ClassId} {n : Nat} {f f1 : Nat → Int32} (ha : μ a = some (.inl (cA, n, .inl f))) (ht : (ktys g)[t0]? = some (cA, .char)) {i : Nat} {x : Int32} (hi : i < n) (hn : n < 2 ^ 31) (hf : upd f i (vp_nar .char x) = f1) (hdg : decode cc pc = .ok (.castore, 1))
    (kk : ∀ (H1 : Heap) (locs1 : List Loc), kS g (km_up μ a (.inl (cA, n, .inl f1))) s H1 locs1 → W p l e R s m args below meth c H1 locs1 cells slots Q (F0 m (pc + 1) ls rest)) : W p l e R s m args below meth c H locs cells slots Q (F0 m pc ls (.int x :: .int (nI i) :: .ref a :: rest)) := by
  subst hf
  obtain ⟨ws, hP, hD, hr⟩ := hM.2.2.1
  obtain ⟨q0, hq⟩ := (hr _ _).mp ha
  refine va_cast hx hb hM.2.1.1 hP hD hM.2.2.2 q0 t0 hq ht (vp_in_nI hi hn) hdg (fun H1 locs1 hP1 hD1 hS1 => kk H1 locs1 (hM.set hD hr hq ?_ ?_ hS1))
  · rw [nI_clamp (by omega)] at hP1
    exact hP1
  · rw [nI_clamp (by omega)] at hD1
    exact hD1
theorem k_last (hx : p.tables.exec = Jvm.exec) (hb : c.code = cc) (hM : kS g μ s H locs) (t0 : Nat) {cA : ClassId} {n : Nat} {f f1 : Nat → Int64} (ha : μ a = some (.inl (cA, n, .inr (.inl f)))) (ht : (ktys g)[t0]? = some (cA, .long)) {i : Nat} {x : Int64} (hi : i < n) (hn : n < 2 ^ 31) (hf : vp_updL f i x = f1) (hdg : decode cc pc = .ok (.lastore, 1))
    (kk : ∀ (H1 : Heap) (locs1 : List Loc), kS g (km_up μ a (.inl (cA, n, .inr (.inl f1)))) s H1 locs1 → W p l e R s m args below meth c H1 locs1 cells slots Q (F0 m (pc + 1) ls rest)) : W p l e R s m args below meth c H locs cells slots Q (F0 m pc ls (.long x :: .int (nI i) :: .ref a :: rest)) := by
  subst hf
  obtain ⟨ws, hP, hD, hr⟩ := hM.2.2.1
  obtain ⟨q0, hq⟩ := (hr _ _).mp ha
  refine va_last hx hb hM.2.1.1 hP hD hM.2.2.2 q0 t0 hq ht (vp_in_nI hi hn) hdg (fun H1 locs1 hP1 hD1 hS1 => kk H1 locs1 (hM.set hD hr hq ?_ ?_ hS1))
  · rw [nI_clamp (by omega)] at hP1
    exact hP1
  · rw [nI_clamp (by omega)] at hD1
    exact hD1
theorem k_aast (hx : p.tables.exec = Jvm.exec) (hb : c.code = cc) (hM : kS g μ s H locs) (t0 ci : Nat) {cA : ClassId} {r : vw_C} {n v : Nat} {vs : List Value} {f f1 : Nat → Option Nat} (ha : μ a = some (.inl (cA, n, .inr (.inr (.inr (.inr f)))))) (ht : (ktys g)[t0]? = some (cA, .object r.1)) (hv : μ v = some (.inr (ci, vs))) (hc : kcl[ci]? = some r) {i : Nat} (hi : i < n) (hn : n < 2 ^ 31) (hf : va_up f i (some v) = f1) (hdg : decode cc pc = .ok (.aastore, 1))
    (kk : ∀ (H1 : Heap) (locs1 : List Loc), kS g (km_up μ a (.inl (cA, n, .inr (.inr (.inr (.inr f1)))))) s H1 locs1 → W p l e R s m args below meth c H1 locs1 cells slots Q (F0 m (pc + 1) ls rest)) : W p l e R s m args below meth c H locs cells slots Q (F0 m pc ls (.ref v :: .int (nI i) :: .ref a :: rest)) := by
  subst hf
  obtain ⟨ws, hP, hD, hr⟩ := hM.2.2.1
  obtain ⟨q0, hq⟩ := (hr _ _).mp ha
  obtain ⟨qk, hk⟩ := (hr _ _).mp hv
  refine va_astq hx hb hM.2.1.1 hP hD hM.2.2.2 q0 t0 qk ci hq ht hk hc (vp_in_nI hi hn) hdg (fun H1 locs1 hP1 hD1 hS1 => kk H1 locs1 (hM.set hD hr hq ?_ ?_ hS1))
  · rw [nI_clamp (by omega)] at hP1
    exact hP1
  · rw [nI_clamp (by omega)] at hD1
    exact hD1
-- new cells
theorem kS.new {g : kG} {μ : km_M} {s : State} {H H1 : Heap} {locs locs1 : List Loc} {q : Nat} {e : va_E} {ws : va_W} (hM : kS g μ s H locs) (hr : km_rep ws μ) (hP1 : va_P g.2.1 kcl (ws ++ [(q, e)]) H1) (hD1 : va_D (fun q => g.1 ≤ q) (ws ++ [(q, e)])) (hS1 : va_S (fun q => g.1 ≤ q) s.heap H1 locs1) : kS g (km_up μ q e) s H1 locs1 ∧ μ q = none :=
  ⟨⟨hM.1, hM.2.1, ⟨_, hP1, hD1, (km_rep_new hr hD1).1⟩, hS1⟩, (km_rep_new hr hD1).2⟩
theorem k_new (hx : p.tables.exec = Jvm.exec) (hb : c.code = cc) {own C : String} {T : u_T} {N ci index : Nat} (hW : ∀ w ∈ Wd, w.before args s = true) (hin : ∀ w ∈ u_ws C T N, w ∈ Wd) (ty : Nat → FieldType) (hty : ∀ k, k < N → parseFieldDescriptor (T k).2.2.1 = some (ty k)) (hown : s.vm.findClass own = some m.cls) (hcl : (Cond.classLink own index C).before args s = true) (hinst : (Cond.instantiable C N).before args s = true) (hini : (Cond.initialized C).before args s = true)
    (hM : kS g μ s H locs) (hc : kcl[ci]? = some (C, T, N)) {fs : List Value} (hfs : ∀ j, j < N → defaultValue (ty j) = vp_V fs j) (hcells : cells + 1 ≤ R.cells) (hslots : slots + N ≤ R.slots) (hdg : decode cc pc = .ok (.new index, 3))
    (kk : ∀ (q : Nat) (H1 : Heap), μ q = none → kS g (km_up μ q (.inr (ci, fs))) s H1 locs → W p l e R s m args below meth c H1 locs (cells + 1) (slots + N) Q (F0 m (pc + 3) ls (.ref q :: rest))) : W p l e R s m args below meth c H locs cells slots Q (F0 m pc ls rest) := by
  obtain ⟨ws, hP, hD, hr⟩ := hM.2.2.1
  exact va_new hx hb hW hin ty hty hown hcl hinst hini hM.2.1.1 hP hD hM.2.2.2 (fun q h => Nat.le_trans hM.1 h) hc hfs hcells hslots hdg (fun q H1 hP1 hD1 hS1 => kk q H1 (hM.new hr hP1 hD1 hS1).2 (hM.new hr hP1 hD1 hS1).1)
theorem k_RA {U : State} {c1 c2 : ClassId} {ty : FieldType} (h1 : va_RA U c1 ty) (h2 : va_RA U c2 ty) : c1 = c2 := by
  cases ty
  case object C =>
    obtain ⟨_, _, _, _, _, h1⟩ := h1
    obtain ⟨_, _, _, _, _, h2⟩ := h2
    rw [h1] at h2
    exact Option.some.inj h2
  all_goals
    simp only [va_RA] at h1 h2
    rw [h1] at h2
    exact Option.some.inj h2
theorem k_sameA {D : va_G} {cl : List vw_C} {tys : List (ClassId × FieldType)} {U : State} {i : Nat} {c1 c2 : ClassId} {ty : FieldType} (hi : tys[i]? = some (c1, ty)) (h : va_K D cl (tys ++ [(c2, ty)]) U) : c2 = c1 := by
  have hlt : i < tys.length := by
    rcases Nat.lt_or_ge i tys.length with h1 | h1
    · exact h1
    · rw [List.getElem?_eq_none h1] at hi
      cases hi
  have h1 := h.2 i (c1, ty) (by rw [List.getElem?_append_left hlt]; exact hi)
  have h2 := h.2 tys.length (c2, ty) (by rw [List.getElem?_append_right (Nat.le_refl _), Nat.sub_self]; rfl)
  exact k_RA h2.2 h1.2
theorem k_newa (hx : p.tables.exec = Jvm.exec) (hb : c.code = cc) {atype : ArrayType} (harr : (Cond.arrayClass (newarray.typeOf atype)).before args s = true) {ty : FieldType} (hty : newarray.typeOf atype = ty) (hM : kS g μ s H locs) (t0 : Nat) {cA : ClassId} (ht : (ktys g)[t0]? = some (cA, ty))
    {N' : Nat} {a0 : vp_A} (ha : ∀ cA : ClassId, vp_cell cA a0 = arrV cA N' (fun _ => defaultValue ty)) (hN : N' < 2 ^ 20) (hbytes : N' * componentBytes ty ≤ 536870912) (hcells : cells + 1 ≤ R.cells) (hslots : slots + N' ≤ R.slots) (hdg : decode cc pc = .ok (.newarray atype, 2))
    (kk : ∀ (q : Nat) (H1 : Heap), μ q = none → kS g (km_up μ q (.inl (cA, a0))) s H1 locs → W p l e R s m args below meth c H1 locs (cells + 1) (slots + N') Q (F0 m (pc + 2) ls (.ref q :: rest))) : W p l e R s m args below meth c H locs cells slots Q (F0 m pc ls (.int (nI N') :: rest)) := by
  obtain ⟨ws, hP, hD, hr⟩ := hM.2.2.1
  refine va_newa hx hb harr hty hM.2.1.1 hP hD hM.2.2.2 (fun q h => Nat.le_trans hM.1 h) ha (nI_pos (by omega)) (nI_clamp (by omega)) hbytes hcells hslots hdg (fun q cB H1 hK1 hP1 hD1 hS1 => ?_)
  cases k_sameA ht hK1
  exact kk q H1 (hM.new hr hP1 hD1 hS1).2 (hM.new hr hP1 hD1 hS1).1
theorem k_newq (hx : p.tables.exec = Jvm.exec) (hb : c.code = cc) {own C : String} {index : Nat} (hown : s.vm.findClass own = some m.cls) (hclink : (Cond.classLink own index C).before args s = true) (hover : va_AO C s) (hM : kS g μ s H locs) (t0 : Nat) {cA : ClassId} (ht : (ktys g)[t0]? = some (cA, .object C))
    {N' : Nat} (hN : N' < 2 ^ 20) (hcells : cells + 1 ≤ R.cells) (hslots : slots + N' ≤ R.slots) (hdg : decode cc pc = .ok (.anewarray index, 3))
    (kk : ∀ (q : Nat) (H1 : Heap), μ q = none → kS g (km_up μ q (.inl (cA, N', .inr (.inr (.inr (.inr (fun _ => none))))))) s H1 locs → W p l e R s m args below meth c H1 locs (cells + 1) (slots + N') Q (F0 m (pc + 3) ls (.ref q :: rest))) : W p l e R s m args below meth c H locs cells slots Q (F0 m pc ls (.int (nI N') :: rest)) := by
  obtain ⟨ws, hP, hD, hr⟩ := hM.2.2.1
  refine va_newq hx hb hown hclink hover hM.2.1.1 hP hD hM.2.2.2 (fun q h => Nat.le_trans hM.1 h) (nI_pos (by omega)) (nI_clamp (by omega)) (by omega) hcells hslots hdg (fun q cB H1 hK1 hP1 hD1 hS1 => ?_)
  cases k_sameA ht hK1
  exact kk q H1 (hM.new hr hP1 hD1 hS1).2 (hM.new hr hP1 hD1 hS1).1
-- behind a call
variable {st0 : List Value} {av : Array Value} {mc ms : Nat}
theorem kc_i {post : Int32 → km_M → Prop} (hr : va_Run p l e R s m args below meth c H locs cells slots mc ms (F0 m pc ls st0) rest (kQi g post av) (kF g)) (hM : kS g μ s H locs)
    (kk : ∀ (r : Int32) (μ1 : km_M) (H1 : Heap) (locs1 : List Loc), post r μ1 → kS g μ1 s H1 locs1 → W p l e R s m args below meth c H1 locs1 (cells + mc) (slots + ms) Q (F0 m (pc + 3) ls (.int r :: rest))) : W p l e R s m args below meth c H locs cells slots Q (F0 m pc ls st0) :=
  va_calli hr hM.2.2.2 (fun _ _ h => h) (fun _ h => h) (fun r u t H1 locs1 ht hvm hp hB hz hk hS => kk r u H1 locs1 hp ⟨hM.1, hM.2.1, ht ▸ hB, hS⟩)
theorem kc_l {post : Int64 → km_M → Prop} (hr : va_Run p l e R s m args below meth c H locs cells slots mc ms (F0 m pc ls st0) rest (kQl g post av) (kF g)) (hM : kS g μ s H locs)
    (kk : ∀ (r : Int64) (μ1 : km_M) (H1 : Heap) (locs1 : List Loc), post r μ1 → kS g μ1 s H1 locs1 → W p l e R s m args below meth c H1 locs1 (cells + mc) (slots + ms) Q (F0 m (pc + 3) ls (.long r :: rest))) : W p l e R s m args below meth c H locs cells slots Q (F0 m pc ls st0) :=
  va_calll hr hM.2.2.2 (fun _ _ h => h) (fun _ h => h) (fun r u t H1 locs1 ht hvm hp hB hz hk hS => kk r u H1 locs1 hp ⟨hM.1, hM.2.1, ht ▸ hB, hS⟩)
theorem kc_v {post : km_M → Prop} (hr : va_Run p l e R s m args below meth c H locs cells slots mc ms (F0 m pc ls st0) rest (kQv g post av) (kF g)) (hM : kS g μ s H locs)
    (kk : ∀ (μ1 : km_M) (H1 : Heap) (locs1 : List Loc), post μ1 → kS g μ1 s H1 locs1 → W p l e R s m args below meth c H1 locs1 (cells + mc) (slots + ms) Q (F0 m (pc + 3) ls rest)) : W p l e R s m args below meth c H locs cells slots Q (F0 m pc ls st0) :=
  va_callv hr hM.2.2.2 (fun _ _ h => h) (fun _ h => h) (fun u t H1 locs1 ht hvm hp hB hz hk hS => kk u H1 locs1 hp ⟨hM.1, hM.2.1, ht ▸ hB, hS⟩)
theorem kc_r {post : Nat → km_M → Prop} (hr : va_Run p l e R s m args below meth c H locs cells slots mc ms (F0 m pc ls st0) rest (kQr g post av) (kF g)) (hM : kS g μ s H locs)
    (kk : ∀ (r : Nat) (μ1 : km_M) (H1 : Heap) (locs1 : List Loc), post r μ1 → kS g μ1 s H1 locs1 → W p l e R s m args below meth c H1 locs1 (cells + mc) (slots + ms) Q (F0 m (pc + 3) ls (.ref r :: rest))) : W p l e R s m args below meth c H locs cells slots Q (F0 m pc ls st0) :=
  va_callr hr hM.2.2.2 (fun _ _ h => h) (fun _ h => h) (fun u r t H1 locs1 ht hvm hp hB hz hk hS => kk r u H1 locs1 hB.1 ⟨hM.1, hM.2.1, ht ▸ hB.2, hS⟩)
theorem kc_q {post : Option Nat → km_M → Prop} (hr : va_Run p l e R s m args below meth c H locs cells slots mc ms (F0 m pc ls st0) rest (kQq g post av) (kF g)) (hM : kS g μ s H locs)
    (kk : ∀ (r : Option Nat) (μ1 : km_M) (H1 : Heap) (locs1 : List Loc), post r μ1 → kS g μ1 s H1 locs1 → W p l e R s m args below meth c H1 locs1 (cells + mc) (slots + ms) Q (F0 m (pc + 3) ls (va_rf r :: rest))) : W p l e R s m args below meth c H locs cells slots Q (F0 m pc ls st0) :=
  va_callq hr hM.2.2.2 (fun _ _ h => h) (fun _ h => h) (fun r u t H1 locs1 ht hvm hp hB hz hk hS => kk r u H1 locs1 hp ⟨hM.1, hM.2.1, ht ▸ hB, hS⟩)
-- returns
theorem kr_i {post : Int32 → km_M → Prop} {v : Int32} (hx : p.tables.exec = Jvm.exec) (hb : c.code = cc) (hr : meth.sig.returnType = some .int) (hlocks : meth.locks = false) (hM : kS g μ s H locs) (hdg : decode cc pc = .ok (.ireturn, 1)) (hp : post v μ) :
    W p l e R s m args below meth c H locs cells slots (MQ below (kQi g post) args s cells slots (kF g)) (F0 m pc ls [.int v]) :=
  W.iret hx hb hr (fun t ht hW => ⟨⟨v, μ, rfl, hp, by show kR g μ t.heap; rw [ht]; exact hM.2.2.1⟩, hM.2.2.2.F ht⟩) hM.2.2.2.2.2 hdg hlocks
theorem kr_z {post : Int32 → km_M → Prop} {v : Int32} {ty : FieldType} (hx : p.tables.exec = Jvm.exec) (hb : c.code = cc) (hr : meth.sig.returnType = some ty) (hn : narrow ty (.int v) = .int v) (hlocks : meth.locks = false) (hM : kS g μ s H locs) (hdg : decode cc pc = .ok (.ireturn, 1)) (hp : post v μ) :
    W p l e R s m args below meth c H locs cells slots (MQ below (kQi g post) args s cells slots (kF g)) (F0 m pc ls [.int v]) :=
  W.zret hx hb hr hn (fun t ht hW => ⟨⟨v, μ, rfl, hp, by show kR g μ t.heap; rw [ht]; exact hM.2.2.1⟩, hM.2.2.2.F ht⟩) hM.2.2.2.2.2 hdg hlocks
theorem kr_l {post : Int64 → km_M → Prop} {v : Int64} (hx : p.tables.exec = Jvm.exec) (hb : c.code = cc) (hr : meth.sig.returnType = some .long) (hlocks : meth.locks = false) (hM : kS g μ s H locs) (hdg : decode cc pc = .ok (.lreturn, 1)) (hp : post v μ) :
    W p l e R s m args below meth c H locs cells slots (MQ below (kQl g post) args s cells slots (kF g)) (F0 m pc ls [.long v]) :=
  W.lret hx hb hr (fun t ht hW => ⟨⟨v, μ, rfl, hp, by show kR g μ t.heap; rw [ht]; exact hM.2.2.1⟩, hM.2.2.2.F ht⟩) hM.2.2.2.2.2 hdg hlocks
theorem kr_v {post : km_M → Prop} (hx : p.tables.exec = Jvm.exec) (hb : c.code = cc) (hr : meth.sig.returnType = none) (hlocks : meth.locks = false) (hM : kS g μ s H locs) (hdg : decode cc pc = .ok (.return_, 1)) (hp : post μ) :
    W p l e R s m args below meth c H locs cells slots (MQ below (kQv g post) args s cells slots (kF g)) (F0 m pc ls []) :=
  W.vret hx hb hr (fun t ht hW => ⟨⟨μ, rfl, hp, by show kR g μ t.heap; rw [ht]; exact hM.2.2.1⟩, hM.2.2.2.F ht⟩) hM.2.2.2.2.2 hdg hlocks
theorem kr_r {post : Nat → km_M → Prop} {v : Nat} {rt : FieldType} (hx : p.tables.exec = Jvm.exec) (hb : c.code = cc) (hr : meth.sig.returnType = some rt) (hrt : (∃ n, rt = .object n) ∨ ∃ t, rt = .array t) (hlocks : meth.locks = false) (hM : kS g μ s H locs) (hdg : decode cc pc = .ok (.areturn, 1)) (hp : post v μ) :
    W p l e R s m args below meth c H locs cells slots (MQ below (kQr g post) args s cells slots (kF g)) (F0 m pc ls [.ref v]) :=
  W.aret hx hb hr hrt (Or.inr ⟨v, rfl⟩) (fun t ht hW => ⟨⟨μ, v, rfl, trivial, hp, by show kR g μ t.heap; rw [ht]; exact hM.2.2.1⟩, hM.2.2.2.F ht⟩) hM.2.2.2.2.2 hdg hlocks
theorem kr_q {post : Option Nat → km_M → Prop} {v : Option Nat} {rt : FieldType} (hx : p.tables.exec = Jvm.exec) (hb : c.code = cc) (hr : meth.sig.returnType = some rt) (hrt : (∃ n, rt = .object n) ∨ ∃ t, rt = .array t) (hlocks : meth.locks = false) (hM : kS g μ s H locs) (hdg : decode cc pc = .ok (.areturn, 1)) (hp : post v μ) :
    W p l e R s m args below meth c H locs cells slots (MQ below (kQq g post) args s cells slots (kF g)) (F0 m pc ls [va_rf v]) :=
  W.aret hx hb hr hrt (by cases v with | none => exact Or.inl rfl | some a => exact Or.inr ⟨a, rfl⟩) (fun t ht hW => ⟨⟨v, μ, rfl, hp, by show kR g μ t.heap; rw [ht]; exact hM.2.2.1⟩, hM.2.2.2.F ht⟩) hM.2.2.2.2.2 hdg hlocks
end KW
theorem k_gC {y : MethodName} {b : ByteArray} {n : Nat} {r : Option FieldType} (h : Cond.code y b n r ∈ Wd) : GoodIn Wd (Cond.code y b n r :: Wd) := k_good (List.forall_mem_cons.mpr ⟨h, fun _ z => z⟩)
theorem k_gV {own C : String} {i : Nat} {y : MethodName} {b : ByteArray} {n : Nat} {r : Option FieldType} (h1 : Cond.methodLink own i y ∈ Wd) (h2 : Cond.instanceMethod y ∈ Wd) (h3 : Cond.selects C y y ∈ Wd) (h4 : Cond.initialized C ∈ Wd) (h : Cond.code y b n r ∈ Wd) : GoodIn Wd (wsV own i C y (Cond.code y b n r :: Wd)) :=
  k_good (List.forall_mem_cons.mpr ⟨h1, List.forall_mem_cons.mpr ⟨h2, List.forall_mem_cons.mpr ⟨h3, List.forall_mem_cons.mpr ⟨h4, List.forall_mem_cons.mpr ⟨h, fun _ z => z⟩⟩⟩⟩⟩)
theorem k_gS {own : String} {i : Nat} {y : MethodName} {b : ByteArray} {n : Nat} {r : Option FieldType} (h1 : Cond.methodLink own i y ∈ Wd) (h2 : Cond.static y ∈ Wd) (h4 : Cond.initialized y.cls ∈ Wd) (h : Cond.code y b n r ∈ Wd) : GoodIn Wd (va_wsS own i y (Cond.code y b n r :: Wd)) :=
  k_good (List.forall_mem_cons.mpr ⟨h1, List.forall_mem_cons.mpr ⟨h2, List.forall_mem_cons.mpr ⟨h4, List.forall_mem_cons.mpr ⟨h, fun _ z => z⟩⟩⟩⟩)
end
section
-- numbers: conditions and bytes as natural numbers
def bI (b : Bool) : Int32 := cond b (nI 1) (nI 0)
theorem bD_0 {P : Prop} [Decidable P] : bI (decide P) = 0 ↔ ¬ P := by
  by_cases h : P
  · rw [decide_eq_true h]
    exact ⟨fun z => absurd z (by decide), fun z => absurd h z⟩
  · rw [decide_eq_false h]
    exact ⟨fun _ => h, fun _ => by decide⟩
theorem bD_n {P : Prop} [Decidable P] : ¬ bI (decide P) = 0 ↔ P := by
  rw [bD_0]
  exact Decidable.not_not
theorem bI_t {P : Prop} [Decidable P] (h : P) : nI 1 = bI (decide P) := by rw [decide_eq_true h]; rfl
theorem bI_f {P : Prop} [Decidable P] (h : ¬ P) : nI 0 = bI (decide P) := by rw [decide_eq_false h]; rfl
theorem bI_c {P Q : Prop} [Decidable P] [Decidable Q] (h : P ↔ Q) : bI (decide P) = bI (decide Q) := by
  by_cases hp : P
  · rw [decide_eq_true hp, decide_eq_true (h.mp hp)]
  · rw [decide_eq_false hp, decide_eq_false (fun z => hp (h.mpr z))]
theorem nar_b (b : Bool) : narrow .boolean (.int (bI b)) = .int (bI b) := by cases b <;> decide
theorem ii1 (a : Nat) : nI a + Int32.ofInt 1 = nI (a + 1) := by
  have h : Int32.ofInt 1 = 1 := by decide
  rw [h]
  exact nI_1 a
theorem nJ_eq_t {a b : Nat} (ha : a < 2 ^ 31) (hb : b < 2 ^ 31) : nI a = nI b ↔ a = b := nI_eq ha hb
theorem nJ_eq_f {a b : Nat} (ha : a < 2 ^ 31) (hb : b < 2 ^ 31) : ¬ nI a = nI b ↔ a ≠ b := not_congr (nI_eq ha hb)
theorem nJ_ne_t {a b : Nat} (ha : a < 2 ^ 31) (hb : b < 2 ^ 31) : ¬ nI a = nI b ↔ a ≠ b := not_congr (nI_eq ha hb)
theorem nJ_ne_f {a b : Nat} (ha : a < 2 ^ 31) (hb : b < 2 ^ 31) : nI a = nI b ↔ a = b := nI_eq ha hb
theorem nJ_lt_t {a b : Nat} (ha : a < 2 ^ 31) (hb : b < 2 ^ 31) : nI a < nI b ↔ a < b := nI_ltI ha hb
theorem nJ_lt_f {a b : Nat} (ha : a < 2 ^ 31) (hb : b < 2 ^ 31) : ¬ nI a < nI b ↔ b ≤ a := by rw [nI_ltI ha hb]; omega
theorem nJ_ge_t {a b : Nat} (ha : a < 2 ^ 31) (hb : b < 2 ^ 31) : nI b ≤ nI a ↔ b ≤ a := nI_leI hb ha
theorem nJ_ge_f {a b : Nat} (ha : a < 2 ^ 31) (hb : b < 2 ^ 31) : ¬ nI b ≤ nI a ↔ a < b := by rw [nI_leI hb ha]; omega
theorem nJ_gt_t {a b : Nat} (ha : a < 2 ^ 31) (hb : b < 2 ^ 31) : nI b < nI a ↔ b < a := nI_ltI hb ha
theorem nJ_gt_f {a b : Nat} (ha : a < 2 ^ 31) (hb : b < 2 ^ 31) : ¬ nI b < nI a ↔ a ≤ b := by rw [nI_ltI hb ha]; omega
theorem nJ_le_t {a b : Nat} (ha : a < 2 ^ 31) (hb : b < 2 ^ 31) : nI a ≤ nI b ↔ a ≤ b := nI_leI ha hb
theorem nJ_le_f {a b : Nat} (ha : a < 2 ^ 31) (hb : b < 2 ^ 31) : ¬ nI a ≤ nI b ↔ b < a := by rw [nI_leI ha hb]; omega
theorem lc_eq_t {x y : Int64} : lg_cmp x y = 0 ↔ x = y := lg_cmp_eq x y
theorem lc_eq_f {x y : Int64} : ¬ lg_cmp x y = 0 ↔ ¬ x = y := not_congr (lg_cmp_eq x y)
theorem lc_ne_t {x y : Int64} : ¬ lg_cmp x y = 0 ↔ ¬ x = y := not_congr (lg_cmp_eq x y)
theorem lc_ne_f {x y : Int64} : lg_cmp x y = 0 ↔ x = y := lg_cmp_eq x y
theorem lc_lt_t {x y : Int64} : lg_cmp x y < 0 ↔ x < y := lg_cmp_lt x y
theorem lc_lt_f {x y : Int64} : ¬ lg_cmp x y < 0 ↔ ¬ x < y := not_congr (lg_cmp_lt x y)
theorem lc_ge_t {x y : Int64} : 0 ≤ lg_cmp x y ↔ y ≤ x := lg_cmp_ge x y
theorem lc_ge_f {x y : Int64} : ¬ 0 ≤ lg_cmp x y ↔ ¬ y ≤ x := not_congr (lg_cmp_ge x y)
theorem lc_gt_t {x y : Int64} : 0 < lg_cmp x y ↔ y < x := lg_cmp_gt x y
theorem lc_gt_f {x y : Int64} : ¬ 0 < lg_cmp x y ↔ ¬ y < x := not_congr (lg_cmp_gt x y)
theorem lc_le_t {x y : Int64} : lg_cmp x y ≤ 0 ↔ x ≤ y := lg_cmp_le x y
theorem lc_le_f {x y : Int64} : ¬ lg_cmp x y ≤ 0 ↔ ¬ x ≤ y := not_congr (lg_cmp_le x y)
/-- a byte as an int -/
def sb (n : Nat) : Int32 := (nI n).toInt8.toInt32
theorem sb_tab : ∀ n : Nat, n < 256 → (sb n).toInt = if n < 128 then (n : Int) else (n : Int) - 256 := by decide +kernel
theorem sJ_eq_t {n c : Nat} (hn : n < 256) (hc : c < 128) : sb n = nI c ↔ n = c := by
  have h1 := sb_tab n hn
  have h2 := nI_toInt (n := c) (by omega)
  rw [← Int32.toInt_inj, h1, h2]
  split <;> omega
theorem sJ_eq_f {n c : Nat} (hn : n < 256) (hc : c < 128) : ¬ sb n = nI c ↔ n ≠ c := not_congr (sJ_eq_t hn hc)
theorem sJ_ne_t {n c : Nat} (hn : n < 256) (hc : c < 128) : ¬ sb n = nI c ↔ n ≠ c := not_congr (sJ_eq_t hn hc)
theorem sJ_ne_f {n c : Nat} (hn : n < 256) (hc : c < 128) : sb n = nI c ↔ n = c := sJ_eq_t hn hc
theorem sJ_lt_t {n c : Nat} (hn : n < 256) (hc : c < 128) : sb n < nI c ↔ n < c ∨ 128 ≤ n := by
  have h1 := sb_tab n hn
  have h2 := nI_toInt (n := c) (by omega)
  rw [Int32.lt_iff_toInt_lt, h1, h2]
  split <;> omega
theorem sJ_lt_f {n c : Nat} (hn : n < 256) (hc : c < 128) : ¬ sb n < nI c ↔ c ≤ n ∧ n < 128 := by
  rw [sJ_lt_t hn hc]
  omega
theorem sJ_gt_t {n c : Nat} (hn : n < 256) (hc : c < 128) : nI c < sb n ↔ c < n ∧ n < 128 := by
  have h1 := sb_tab n hn
  have h2 := nI_toInt (n := c) (by omega)
  rw [Int32.lt_iff_toInt_lt, h1, h2]
  split <;> omega
theorem sJ_gt_f {n c : Nat} (hn : n < 256) (hc : c < 128) : ¬ nI c < sb n ↔ n ≤ c ∨ 128 ≤ n := by
  rw [sJ_gt_t hn hc]
  omega
theorem sJ_ge_t {n c : Nat} (hn : n < 256) (hc : c < 128) : nI c ≤ sb n ↔ c ≤ n ∧ n < 128 := by
  have h1 := sb_tab n hn
  have h2 := nI_toInt (n := c) (by omega)
  rw [Int32.le_iff_toInt_le, h1, h2]
  split <;> omega
theorem sJ_ge_f {n c : Nat} (hn : n < 256) (hc : c < 128) : ¬ nI c ≤ sb n ↔ n < c ∨ 128 ≤ n := by
  rw [sJ_ge_t hn hc]
  omega
theorem sJ_le_t {n c : Nat} (hn : n < 256) (hc : c < 128) : sb n ≤ nI c ↔ n ≤ c ∨ 128 ≤ n := by
  have h1 := sb_tab n hn
  have h2 := nI_toInt (n := c) (by omega)
  rw [Int32.le_iff_toInt_le, h1, h2]
  split <;> omega
theorem sJ_le_f {n c : Nat} (hn : n < 256) (hc : c < 128) : ¬ sb n ≤ nI c ↔ c < n ∧ n < 128 := by
  rw [sJ_le_t hn hc]
  omega
theorem sb_small {n : Nat} (h : n < 128) : sb n = nI n := (sJ_eq_t (by omega) h).mpr rfl
/-- a digit's value -/
theorem sb_dig {n : Nat} (h : 48 ≤ n) (h2 : n ≤ 57) : sb n - nI 48 = nI (n - 48) := by
  rw [sb_small (by omega)]
  exact pk_sub h
theorem updn_at {f : Nat → Nat} {i v : Nat} : upd (fun j => nI (f j)) i (nI v) = fun j => nI (va_up f i v j) := by
  funext j
  simp only [upd, va_up]
  split <;> rfl
theorem updsb_at {f : Nat → Nat} {i v : Nat} : upd (fun j => sb (f j)) i (vp_nar .byte (sb v)) = fun j => sb (va_up f i v j) := by
  funext j
  have h : vp_nar .byte (sb v) = sb v := pk_vb (nI v)
  simp only [upd, va_up, h]
  split <;> rfl
theorem updc_at {f : Nat → Nat} {i v : Nat} (hv : v < 65536) : upd (fun j => nI (f j)) i (vp_nar .char (nI v)) = fun j => nI (va_up f i v j) := by
  funext j
  have h : vp_nar .char (nI v) = nI v := by
    unfold vp_nar
    rw [(pk_charN hv).1]
  simp only [upd, va_up, h]
  split <;> rfl
theorem kz_s (cA : ClassId) (N : Nat) : vp_cell cA (N, .inl (fun j => sb ((fun _ => 0) j))) = arrV cA N (fun _ => defaultValue .byte) := by
  have h : sb 0 = 0 := by decide
  show arrV cA N (fun _ => Value.int (sb 0)) = _
  rw [h]
  rfl
theorem kz_n {ty : FieldType} (h : defaultValue ty = .int 0) (cA : ClassId) (N : Nat) : vp_cell cA (N, .inl (fun j => nI ((fun _ => 0) j))) = arrV cA N (fun _ => defaultValue ty) := by
  have h0 : nI 0 = 0 := nI_0
  show arrV cA N (fun _ => Value.int (nI 0)) = _
  rw [h, h0]
section KB
variable {p : Program} {l : Launch} {e : Env} {R : Room} {s : State} {m : MethodId} {args : Array Value} {below : List Frame} {meth : Method} {c : Code} {H : Heap} {locs : List Loc} {cells slots : Nat} {Q : State → Prop} {pc : Nat} {ls : Array Slot} {rest : List Value}
theorem topi_eq {x y : Int32} (h : x = y) (k : W p l e R s m args below meth c H locs cells slots Q (F0 m pc ls (.int y :: rest))) : W p l e R s m args below meth c H locs cells slots Q (F0 m pc ls (.int x :: rest)) := by subst h; exact k
theorem topl_eq {x y : Int64} (h : x = y) (k : W p l e R s m args below meth c H locs cells slots Q (F0 m pc ls (.long y :: rest))) : W p l e R s m args below meth c H locs cells slots Q (F0 m pc ls (.long x :: rest)) := by subst h; exact k
end KB
theorem lJ_eq_t {a b : Nat} (ha : a < 2 ^ 63) (hb : b < 2 ^ 63) : lg_cmp (lN a) (lN b) = 0 ↔ a = b := by rw [lg_cmp_eq]; exact pk_lEQ ha hb
theorem lJ_eq_f {a b : Nat} (ha : a < 2 ^ 63) (hb : b < 2 ^ 63) : ¬ lg_cmp (lN a) (lN b) = 0 ↔ a ≠ b := not_congr (lJ_eq_t ha hb)
theorem lJ_ne_t {a b : Nat} (ha : a < 2 ^ 63) (hb : b < 2 ^ 63) : ¬ lg_cmp (lN a) (lN b) = 0 ↔ a ≠ b := not_congr (lJ_eq_t ha hb)
theorem lJ_ne_f {a b : Nat} (ha : a < 2 ^ 63) (hb : b < 2 ^ 63) : lg_cmp (lN a) (lN b) = 0 ↔ a = b := lJ_eq_t ha hb
theorem lJ_lt_t {a b : Nat} (ha : a < 2 ^ 63) (hb : b < 2 ^ 63) : lg_cmp (lN a) (lN b) < 0 ↔ a < b := by rw [lg_cmp_lt]; exact pk_lLT ha hb
theorem lJ_lt_f {a b : Nat} (ha : a < 2 ^ 63) (hb : b < 2 ^ 63) : ¬ lg_cmp (lN a) (lN b) < 0 ↔ b ≤ a := by rw [lJ_lt_t ha hb]; omega
theorem lJ_ge_t {a b : Nat} (ha : a < 2 ^ 63) (hb : b < 2 ^ 63) : 0 ≤ lg_cmp (lN a) (lN b) ↔ b ≤ a := by rw [lg_cmp_ge]; exact pk_lLE hb ha
theorem lJ_ge_f {a b : Nat} (ha : a < 2 ^ 63) (hb : b < 2 ^ 63) : ¬ 0 ≤ lg_cmp (lN a) (lN b) ↔ a < b := by rw [lJ_ge_t ha hb]; omega
theorem lJ_gt_t {a b : Nat} (ha : a < 2 ^ 63) (hb : b < 2 ^ 63) : 0 < lg_cmp (lN a) (lN b) ↔ b < a := by rw [lg_cmp_gt]; exact pk_lLT hb ha
theorem lJ_gt_f {a b : Nat} (ha : a < 2 ^ 63) (hb : b < 2 ^ 63) : ¬ 0 < lg_cmp (lN a) (lN b) ↔ a ≤ b := by rw [lJ_gt_t ha hb]; omega
theorem lJ_le_t {a b : Nat} (ha : a < 2 ^ 63) (hb : b < 2 ^ 63) : lg_cmp (lN a) (lN b) ≤ 0 ↔ a ≤ b := by rw [lg_cmp_le]; exact pk_lLE ha hb
theorem lJ_le_f {a b : Nat} (ha : a < 2 ^ 63) (hb : b < 2 ^ 63) : ¬ lg_cmp (lN a) (lN b) ≤ 0 ↔ b < a := by rw [lJ_le_t ha hb]; omega
theorem lm1_ge : ¬ 0 ≤ lg_cmp (-1) (lN 0) := by decide +kernel
-- texts as lists of numbers
def isD (n : Nat) : Prop := 48 ≤ n ∧ n ≤ 57
def isL (n : Nat) : Prop := (97 ≤ n ∧ n ≤ 122) ∨ (65 ≤ n ∧ n ≤ 90) ∨ n = 45
theorem isD_iff (n : Nat) : isD n ↔ 48 ≤ n ∧ n ≤ 57 := Iff.rfl
theorem isL_iff (n : Nat) : isL n ↔ (97 ≤ n ∧ n ≤ 122) ∨ (65 ≤ n ∧ n ≤ 90) ∨ n = 45 := Iff.rfl
abbrev dD (n : Nat) : Bool := decide (48 ≤ n ∧ n ≤ 57)
abbrev dM (n : Nat) : Bool := decide ((48 ≤ n ∧ n ≤ 57) ∨ (97 ≤ n ∧ n ≤ 122) ∨ (65 ≤ n ∧ n ≤ 90) ∨ n = 45)
/-- the bytes from i on, ahead of j -/
def sg (t : Nat → Nat) : Nat → Nat → List Nat
  | i, 0 => []
  | i, k + 1 => t i :: sg t (i + 1) k
theorem sg_len (t : Nat → Nat) : ∀ (k i : Nat), (sg t i k).length = k
  | 0, _ => rfl
  | k + 1, i => by rw [sg, List.length_cons, sg_len t k (i + 1)]
theorem sg_cons (t : Nat → Nat) (i k : Nat) : sg t i (k + 1) = t i :: sg t (i + 1) k := rfl
theorem sg_pos (t : Nat → Nat) {i j : Nat} (h : i < j) : sg t i (j - i) = t i :: sg t (i + 1) (j - (i + 1)) := by
  have e : j - i = (j - (i + 1)) + 1 := by omega
  rw [e]
  rfl
theorem sg_snoc (t : Nat → Nat) : ∀ (k i : Nat), sg t i (k + 1) = sg t i k ++ [t (i + k)]
  | 0, _ => rfl
  | k + 1, i => by
    rw [sg_cons, sg_snoc t k (i + 1), sg_cons]
    have e : i + 1 + k = i + (k + 1) := by omega
    rw [e]
    rfl
theorem sg_take (t : Nat → Nat) : ∀ (k n i : Nat), k ≤ n → (sg t i n).take k = sg t i k
  | 0, _, _, _ => rfl
  | k + 1, 0, _, h => by omega
  | k + 1, n + 1, i, h => by rw [sg_cons, sg_cons, List.take_succ_cons, sg_take t k n (i + 1) (by omega)]
theorem sg_drop (t : Nat → Nat) : ∀ (k n i : Nat), k ≤ n → (sg t i n).drop k = sg t (i + k) (n - k)
  | 0, _, _, _ => rfl
  | k + 1, 0, _, h => by omega
  | k + 1, n + 1, i, h => by
    rw [sg_cons, List.drop_succ_cons, sg_drop t k n (i + 1) (by omega)]
    have e1 : i + 1 + k = i + (k + 1) := by omega
    have e2 : n - k = n + 1 - (k + 1) := by omega
    rw [e1, e2]
theorem sg_at (t : Nat → Nat) : ∀ (n i k : Nat), k < n → (sg t i n)[k]? = some (t (i + k))
  | 0, _, _, h => by omega
  | n + 1, i, 0, h => rfl
  | n + 1, i, k + 1, h => by
    rw [sg_cons, List.getElem?_cons_succ, sg_at t n (i + 1) k (by omega)]
    have e1 : i + 1 + k = i + (k + 1) := by omega
    rw [e1]
/-- how many of a text's first entries have the property -/
def pN (f : Nat → Bool) : List Nat → Nat
  | [] => 0
  | x :: xs => if f x then pN f xs + 1 else 0
theorem pN_le (f : Nat → Bool) : ∀ xs : List Nat, pN f xs ≤ xs.length
  | [] => Nat.le_refl _
  | x :: xs => by
    rw [pN, List.length_cons]
    have h := pN_le f xs
    split <;> omega
theorem pN_t {f : Nat → Bool} {x : Nat} {xs : List Nat} (h : f x = true) : pN f (x :: xs) = pN f xs + 1 := by rw [pN, if_pos h]
theorem pN_f {f : Nat → Bool} {x : Nat} {xs : List Nat} (h : f x = false) : pN f (x :: xs) = 0 := by rw [pN, if_neg (by rw [h]; decide)]
theorem pN_all {f : Nat → Bool} {t : Nat → Nat} : ∀ (n i k : Nat), k < pN f (sg t i n) → f (t (i + k)) = true
  | 0, _, _, h => absurd h (Nat.not_lt_zero _)
  | n + 1, i, k, h => by
    rw [sg_cons, pN] at h
    split at h
    · rename_i h1
      cases k with
      | zero => exact h1
      | succ k =>
        have h2 := pN_all (f := f) (t := t) n (i + 1) k (by omega)
        have e1 : i + 1 + k = i + (k + 1) := by omega
        rw [e1] at h2
        exact h2
    · omega
/-- the number that digits write -/
def vN : Nat → List Nat → Nat
  | a, [] => a
  | a, x :: xs => vN (a * 10 + (x - 48)) xs
theorem vN_snoc : ∀ (xs : List Nat) (a x : Nat), vN a (xs ++ [x]) = vN a xs * 10 + (x - 48)
  | [], _, _ => rfl
  | y :: ys, a, x => vN_snoc ys (a * 10 + (y - 48)) x
/-- a text of digits: what readNumber and numberSince answer -/
def okN (most : Nat) (xs : List Nat) : Prop := 1 ≤ xs.length ∧ xs.length ≤ most ∧ ¬ (1 < xs.length ∧ xs.head? = some 48)
def nR (xs : List Nat) : Int32 := if 1 ≤ xs.length ∧ xs.length ≤ 9 ∧ ¬ (1 < xs.length ∧ xs.head? = some 48) then nI (vN 0 xs) else (-1)
/-- a byte of an int -/
def bt (v : Int32) (k : Nat) : Nat := (v >>> (nI k &&& 31)).toBitVec.toNat % 256
theorem bt_lt (v : Int32) (k : Nat) : bt v k < 256 := Nat.mod_lt _ (by decide)
theorem sb_mod (x : Int32) : x.toInt8.toInt32 = sb (x.toBitVec.toNat % 256) := by
  unfold sb
  congr 1
  apply Int8.toBitVec_inj.mp
  apply BitVec.eq_of_toNat_eq
  simp [nI]
  rw [BitVec.signExtend_eq_setWidth_of_le _ (by decide), BitVec.toNat_setWidth]
theorem bt_sb (v : Int32) (k : Nat) : (v >>> (nI k &&& 31)).toInt8.toInt32 = sb (bt v k) := sb_mod _
theorem bt_nI (v : Int32) (k : Nat) : (v >>> (nI k &&& 31)) &&& nI 255 = nI (bt v k) := pk_and _ 8 (by decide)
def pb4 (B : Nat → Nat) (n : Nat) (v : Int32) : Nat → Nat := va_up (va_up (va_up (va_up B n (bt v 24)) (n + 1) (bt v 16)) (n + 2) (bt v 8)) (n + 3) (bt v 0)
theorem up_lt {B : Nat → Nat} {M i v : Nat} (h : ∀ k, B k < M) (hv : v < M) : ∀ k, va_up B i v k < M := by
  intro k
  simp only [va_up]
  split
  · exact hv
  · exact h k
theorem pb4_lt {B : Nat → Nat} (h : ∀ k, B k < 256) (n : Nat) (v : Int32) : ∀ k, pb4 B n v k < 256 :=
  up_lt (up_lt (up_lt (up_lt h (bt_lt _ _)) (bt_lt _ _)) (bt_lt _ _)) (bt_lt _ _)
/-- the words of a tape: how many, where each starts, where each stops -/
def spl (B S E : Nat → Nat) : Nat → Nat × (Nat → Nat) × (Nat → Nat)
  | 0 => (0, S, E)
  | i + 1 => if B i = 32 then spl B S E i else if i = 0 ∨ B (i - 1) = 32 then ((spl B S E i).1 + 1, va_up (spl B S E i).2.1 (spl B S E i).1 i, va_up (spl B S E i).2.2 (spl B S E i).1 (i + 1)) else ((spl B S E i).1, (spl B S E i).2.1, va_up (spl B S E i).2.2 ((spl B S E i).1 - 1) (i + 1))
theorem spl_0 (B S E : Nat → Nat) : spl B S E 0 = (0, S, E) := rfl
theorem spl_sp {B S E : Nat → Nat} {i : Nat} (h : B i = 32) : spl B S E (i + 1) = spl B S E i := by rw [spl, if_pos h]
theorem spl_st {B S E S1 E1 : Nat → Nat} {i w : Nat} (he : spl B S E i = (w, S1, E1)) (h : B i ≠ 32) (h2 : i = 0 ∨ B (i - 1) = 32) : spl B S E (i + 1) = (w + 1, va_up S1 w i, va_up E1 w (i + 1)) := by rw [spl, if_neg h, if_pos h2, he]
theorem spl_go {B S E S1 E1 : Nat → Nat} {i w : Nat} (he : spl B S E i = (w, S1, E1)) (h : B i ≠ 32) (h2 : ¬ (i = 0 ∨ B (i - 1) = 32)) : spl B S E (i + 1) = (w, S1, va_up E1 (w - 1) (i + 1)) := by rw [spl, if_neg h, if_neg h2, he]
theorem spl_b (B S E : Nat → Nat) : ∀ i, 2 * (spl B S E i).1 ≤ i + 1 ∧ (i = 0 ∨ B (i - 1) = 32 → 2 * (spl B S E i).1 ≤ i) ∧ (0 < i → B (i - 1) ≠ 32 → 1 ≤ (spl B S E i).1) := by
  intro i
  induction i with
  | zero => exact ⟨Nat.zero_le _, fun _ => Nat.le_refl _, fun h => absurd h (Nat.lt_irrefl _)⟩
  | succ i ih =>
    obtain ⟨h1, h2, h3⟩ := ih
    rw [Nat.add_sub_cancel]
    rw [spl]
    by_cases hb : B i = 32
    · rw [if_pos hb]
      exact ⟨by omega, fun _ => by omega, fun _ z => absurd hb z⟩
    · rw [if_neg hb]
      by_cases hs : i = 0 ∨ B (i - 1) = 32
      · rw [if_pos hs]
        have h4 := h2 hs
        exact ⟨by simp only; omega, fun z => by rcases z with z | z; omega; exact absurd z hb, fun _ _ => by simp only; omega⟩
      · rw [if_neg hs]
        have h5 := h3 (by omega) (fun z => hs (Or.inr z))
        exact ⟨by simp only; omega, fun z => by rcases z with z | z; omega; exact absurd z hb, fun _ _ => h5⟩
theorem sg_head (t : Nat → Nat) (i k : Nat) : (sg t i (k + 1)).head? = some (t i) := rfl
theorem nR_ok {B : Nat → Nat} {i n : Nat} (h1 : 1 ≤ n) (h2 : n ≤ 9) (h3 : ¬ (1 < n ∧ B i = 48)) : nR (sg B i n) = nI (vN 0 (sg B i n)) := by
  obtain ⟨k, rfl⟩ : ∃ k, n = k + 1 := ⟨n - 1, by omega⟩
  unfold nR
  rw [sg_len, sg_head]
  rw [if_pos]
  exact ⟨h1, h2, fun z => h3 ⟨z.1, Option.some.inj z.2⟩⟩
theorem nR_no {B : Nat → Nat} {i n : Nat} (h : n < 1 ∨ 9 < n ∨ (1 < n ∧ B i = 48)) : nR (sg B i n) = (-1) := by
  unfold nR
  rw [sg_len]
  rw [if_neg]
  rintro ⟨h1, h2, h3⟩
  obtain ⟨k, rfl⟩ : ∃ k, n = k + 1 := ⟨n - 1, by omega⟩
  rw [sg_head] at h3
  rcases h with h | h | h
  · omega
  · omega
  · exact h3 ⟨h.1, by rw [h.2]⟩
/-- how many of the next bytes are digits; how many may stand in a mark -/
abbrev nD (B : Nat → Nat) (i n : Nat) : Nat := pN dD (sg B i n)
abbrev nM (B : Nat → Nat) (i n : Nat) : Nat := pN dM (sg B i n)
theorem pN_step {f : Nat → Bool} {B : Nat → Nat} {i z : Nat} (h : i < z) (hf : f (B i) = true) : pN f (sg B i (z - i)) = pN f (sg B (i + 1) (z - (i + 1))) + 1 := by rw [sg_pos B h, pN_t hf]
theorem pN_stop {f : Nat → Bool} {B : Nat → Nat} {i z : Nat} (h : i < z) (hf : f (B i) = false) : pN f (sg B i (z - i)) = 0 := by rw [sg_pos B h, pN_f hf]
theorem pN_end {f : Nat → Bool} {B : Nat → Nat} {i z : Nat} (h : z ≤ i) : pN f (sg B i (z - i)) = 0 := by
  have e : z - i = 0 := by omega
  rw [e]
  rfl
theorem nD_step {B : Nat → Nat} {i z : Nat} (h : i < z) (hf : 48 ≤ B i ∧ B i ≤ 57) : nD B i (z - i) = nD B (i + 1) (z - (i + 1)) + 1 := pN_step h (decide_eq_true hf)
theorem nD_stop {B : Nat → Nat} {i z : Nat} (h : i < z) (hf : ¬ (48 ≤ B i ∧ B i ≤ 57)) : nD B i (z - i) = 0 := pN_stop h (decide_eq_false hf)
theorem nD_end {B : Nat → Nat} {i z : Nat} (h : z ≤ i) : nD B i (z - i) = 0 := pN_end h
theorem nM_step {B : Nat → Nat} {i z : Nat} (h : i < z) (hf : dM (B i) = true) : nM B i (z - i) = nM B (i + 1) (z - (i + 1)) + 1 := pN_step h hf
theorem nM_stop {B : Nat → Nat} {i z : Nat} (h : i < z) (hf : dM (B i) = false) : nM B i (z - i) = 0 := pN_stop h hf
theorem nM_end {B : Nat → Nat} {i z : Nat} (h : z ≤ i) : nM B i (z - i) = 0 := pN_end h
theorem nD_digs {B : Nat → Nat} {a n k : Nat} (h : k ≤ nD B a n) : ∀ q, a ≤ q → q < a + k → 48 ≤ B q ∧ B q ≤ 57 := by
  intro q h1 h2
  have z := pN_all (f := dD) (t := B) n a (q - a) (by show q - a < nD B a n; omega)
  have e : a + (q - a) = q := by omega
  rw [e] at z
  exact of_decide_eq_true z
theorem pN_lez {f : Nat → Bool} {B : Nat → Nat} (i n : Nat) : pN f (sg B i n) ≤ n := by
  have h := pN_le f (sg B i n)
  rw [sg_len] at h
  exact h
/-- a mark's bytes in one long, as they are read -/
def pkI : Int64 → List Nat → Int64
  | a, [] => a
  | a, x :: xs => pkI (a <<< ((nI 8).toInt64 &&& 63) ||| (sb x).toInt64) xs
theorem pkI_snoc : ∀ (xs : List Nat) (a : Int64) (x : Nat), pkI a (xs ++ [x]) = pkI a xs <<< ((nI 8).toInt64 &&& 63) ||| (sb x).toInt64
  | [], _, _ => rfl
  | y :: ys, a, x => pkI_snoc ys (a <<< ((nI 8).toInt64 &&& 63) ||| (sb y).toInt64) x
/-- what readMark answers to a mark's bytes -/
def mR (xs : List Nat) : Int64 := if 1 ≤ xs.length ∧ xs.length ≤ 8 then (if xs.all dD = true then (nR xs).toInt64 else pkI (lN 0) xs <<< ((nI (8 * (8 - xs.length))).toInt64 &&& 63)) else (-1)
theorem mR_no {B : Nat → Nat} {i n : Nat} (h : n < 1 ∨ 8 < n) : mR (sg B i n) = (-1) := by
  unfold mR
  rw [sg_len, if_neg (by omega)]
theorem mR_dig {B : Nat → Nat} {i n : Nat} (h1 : 1 ≤ n) (h2 : n ≤ 8) (h : (sg B i n).all dD = true) : mR (sg B i n) = (nR (sg B i n)).toInt64 := by
  unfold mR
  rw [sg_len, if_pos ⟨h1, h2⟩, if_pos h]
theorem mR_txt {B : Nat → Nat} {i n : Nat} (h1 : 1 ≤ n) (h2 : n ≤ 8) (h : ¬ (sg B i n).all dD = true) : mR (sg B i n) = pkI (lN 0) (sg B i n) <<< ((nI (8 * (8 - n))).toInt64 &&& 63) := by
  unfold mR
  rw [sg_len, if_pos ⟨h1, h2⟩, if_neg h]
theorem all_snoc (B : Nat → Nat) (i k : Nat) : (sg B i (k + 1)).all dD = true ↔ ((sg B i k).all dD = true ∧ 48 ≤ B (i + k) ∧ B (i + k) ≤ 57) := by
  rw [sg_snoc, List.all_append, Bool.and_eq_true]
  simp [dD]
theorem all_dig {B : Nat → Nat} {i n : Nat} (h : (sg B i n).all dD = true) : ∀ k, i ≤ k → k < i + n → 48 ≤ B k ∧ B k ≤ 57 := by
  intro k h1 h2
  rw [List.all_eq_true] at h
  have h3 := h (B k) (by
    have h4 := sg_at B n i (k - i) (by omega)
    have e : i + (k - i) = k := by omega
    rw [e] at h4
    exact List.mem_of_getElem? h4)
  exact of_decide_eq_true h3
end
section
theorem wb_tb (n : Nat) : (lN n).toBitVec = BitVec.ofNat 64 n := rfl
theorem wb_inj {a b : Int64} (h : a.toBitVec = b.toBitVec) : a = b := Int64.toBitVec_inj.mp h
theorem wb_tn {n : Nat} (h : n < 2 ^ 64) : (lN n).toBitVec.toNat = n := by rw [wb_tb, BitVec.toNat_ofNat, Nat.mod_eq_of_lt h]
theorem wb_c : ∀ k, k < 64 → ((nI k).toInt64 &&& 63) = lN k := by decide +kernel
theorem wb_sm : ∀ k, k < 64 → (BitVec.ofNat 64 k).smod 64 = BitVec.ofNat 64 k := by decide +kernel
theorem wb_shl (n : Nat) {k : Nat} (hk : k < 64) : lN n <<< ((nI k).toInt64 &&& 63) = lN (n * 2 ^ k) := by
  rw [wb_c k hk]
  apply wb_inj
  rw [Int64.toBitVec_shiftLeft, wb_tb, wb_tb, wb_tb, wb_sm k hk]
  apply BitVec.eq_of_toNat_eq
  rw [BitVec.shiftLeft_eq', BitVec.toNat_shiftLeft, BitVec.toNat_ofNat, BitVec.toNat_ofNat, BitVec.toNat_ofNat, Nat.mod_eq_of_lt (show k < 2 ^ 64 by omega), Nat.shiftLeft_eq, Nat.mul_mod, Nat.mod_mod, ← Nat.mul_mod]
theorem wb_or {a b : Nat} (ha : a < 2 ^ 64) (hb : b < 2 ^ 64) : lN a ||| lN b = lN (a ||| b) := by
  apply wb_inj
  rw [Int64.toBitVec_or, wb_tb, wb_tb, wb_tb]
  apply BitVec.eq_of_toNat_eq
  rw [BitVec.toNat_or, BitVec.toNat_ofNat, BitVec.toNat_ofNat, BitVec.toNat_ofNat, Nat.mod_eq_of_lt ha, Nat.mod_eq_of_lt hb, Nat.mod_eq_of_lt (Nat.or_lt_two_pow ha hb)]
-- rows of longs: the row without PRE, the order of two rows
def dpF (F : Nat → Int64) : Nat → Int64 := vp_updL (vp_updL (vp_updL (vp_updL F 3 9223372036854775807) 4 (-1)) 5 (-1)) 6 (-1)
def oF (F G : Nat → Int64) : Nat → Nat → Int32
  | _, 0 => nI 0
  | i, n + 1 => if F i = G i then oF F G (i + 1) n else if F i < G i then (-1) else nI 1
theorem oF_eq {F G : Nat → Int64} {i n : Nat} (h : F i = G i) : oF F G i (n + 1) = oF F G (i + 1) n := by rw [oF, if_pos h]
theorem oF_lt {F G : Nat → Int64} {i n : Nat} (h : ¬ F i = G i) (h2 : ¬ G i ≤ F i) : oF F G i (n + 1) = (-1) := by
  rw [oF, if_neg h, if_pos]
  rw [Int64.le_iff_toInt_le] at h2
  exact Int64.lt_iff_toInt_lt.mpr (by omega)
theorem oF_gt {F G : Nat → Int64} {i n : Nat} (h : ¬ F i = G i) (h2 : G i ≤ F i) : oF F G i (n + 1) = nI 1 := by
  rw [oF, if_neg h, if_neg]
  intro z
  have h3 := Int64.lt_iff_toInt_lt.mp z
  have h4 := Int64.le_iff_toInt_le.mp h2
  omega
-- what a version's text is: places in a tape
def vNum (B : Nat → Nat) (a z : Nat) : Option (Nat × Nat) := if 1 ≤ nD B a (z - a) ∧ nD B a (z - a) ≤ 9 ∧ ¬ (1 < nD B a (z - a) ∧ B a = 48) then some (vN 0 (sg B a (nD B a (z - a))), a + nD B a (z - a)) else none
def vDot (B : Nat → Nat) (a z ch : Nat) : Option Nat := if a < z ∧ B a = ch then some (a + 1) else none
def vThree (B : Nat → Nat) (a z : Nat) : Option (Nat × Nat × Nat × Nat) :=
  (vNum B a z).bind fun x => (vDot B x.2 z 46).bind fun a1 => (vNum B a1 z).bind fun y => (vDot B y.2 z 46).bind fun a2 => (vNum B a2 z).bind fun w => some (x.1, y.1, w.1, w.2)
def vMark (B : Nat → Nat) (a z : Nat) : Option (List Nat × Nat) := if 1 ≤ nM B a (z - a) ∧ nM B a (z - a) ≤ 8 ∧ ¬ ((sg B a (nM B a (z - a))).all dD = true ∧ 1 < nM B a (z - a) ∧ B a = 48) then some (sg B a (nM B a (z - a)), a + nM B a (z - a)) else none
def vPre (B : Nat → Nat) (z : Nat) : Nat → Nat → Option (List (List Nat))
  | 0, _ => none
  | n + 1, a => (vMark B a z).bind fun m => if m.2 = z then some [m.1] else (vDot B m.2 z 46).bind fun a1 => (vPre B z n a1).map fun ms => m.1 :: ms
abbrev kVer : Type := Nat × Nat × Nat × List (List Nat)
def vVer (B : Nat → Nat) (a z : Nat) : Option kVer :=
  (vThree B a z).bind fun q => if q.2.2.2 = z then some (q.1, q.2.1, q.2.2.1, []) else (vDot B q.2.2.2 z 45).bind fun a1 => (vPre B z 4 a1).map fun ms => (q.1, q.2.1, q.2.2.1, ms)
theorem vN_lt : ∀ (xs : List Nat) (a : Nat), (∀ x ∈ xs, x ≤ 57) → vN a xs < (a + 1) * 10 ^ xs.length
  | [], a, _ => by
    show a < (a + 1) * 10 ^ 0
    omega
  | x :: xs, a, h => by
    have h1 := vN_lt xs (a * 10 + (x - 48)) (fun y hy => h y (List.mem_cons_of_mem _ hy))
    have h2 := h x List.mem_cons_self
    show vN (a * 10 + (x - 48)) xs < (a + 1) * 10 ^ (xs.length + 1)
    rw [Nat.pow_succ]
    have h3 : (a * 10 + (x - 48) + 1) * 10 ^ xs.length ≤ ((a + 1) * 10) * 10 ^ xs.length := Nat.mul_le_mul_right _ (by omega)
    have h4 : (a + 1) * 10 * 10 ^ xs.length = (a + 1) * (10 ^ xs.length * 10) := by rw [Nat.mul_assoc, Nat.mul_comm 10]
    omega
theorem sg_mem {B : Nat → Nat} : ∀ (n i x : Nat), x ∈ sg B i n → ∃ k, k < n ∧ x = B (i + k)
  | 0, _, _, h => by cases h
  | n + 1, i, x, h => by
    rw [sg_cons] at h
    rcases List.mem_cons.mp h with h | h
    · exact ⟨0, by omega, h⟩
    · obtain ⟨k, h1, h2⟩ := sg_mem n (i + 1) x h
      refine ⟨k + 1, by omega, ?_⟩
      rw [h2]
      congr 1
      omega
theorem nD_dig {B : Nat → Nat} {a n : Nat} : ∀ x ∈ sg B a (nD B a n), 48 ≤ x ∧ x ≤ 57 := by
  intro x hx
  obtain ⟨k, h1, rfl⟩ := sg_mem _ _ _ hx
  exact of_decide_eq_true (pN_all n a k h1)
theorem pow9 {n : Nat} (h : n ≤ 9) : 10 ^ n ≤ 1000000000 := by
  have h1 : 10 ^ n ≤ 10 ^ 9 := Nat.pow_le_pow_right (by decide) h
  exact h1
/-- the two ways of a number -/
theorem vNum_cases (B : Nat → Nat) {a z : Nat} (haz : a ≤ z) : (vNum B a z = none ∧ nR (sg B a (nD B a (z - a))) = (-1)) ∨ (∃ v a1, vNum B a z = some (v, a1) ∧ nR (sg B a (nD B a (z - a))) = nI v ∧ v < 1000000000 ∧ a + nD B a (z - a) = a1 ∧ a1 ≤ z) := by
  unfold vNum
  have hle : nD B a (z - a) ≤ z - a := pN_lez a (z - a)
  by_cases h : 1 ≤ nD B a (z - a) ∧ nD B a (z - a) ≤ 9 ∧ ¬ (1 < nD B a (z - a) ∧ B a = 48)
  · rw [if_pos h]
    refine Or.inr ⟨_, _, rfl, nR_ok h.1 h.2.1 h.2.2, ?_, rfl, by omega⟩
    have h1 := vN_lt (sg B a (nD B a (z - a))) 0 (fun x hx => (nD_dig x hx).2)
    rw [sg_len] at h1
    have h2 := pow9 h.2.1
    omega
  · rw [if_neg h]
    exact Or.inl ⟨rfl, nR_no (by omega)⟩
/-- a mark's bytes as one number -/
def pkN : Nat → List Nat → Nat
  | a, [] => a
  | a, x :: xs => pkN (a * 256 + x) xs
theorem pk_one {a x : Nat} (hx : x < 128) (ha : a < 2 ^ 55) : lN a <<< ((nI 8).toInt64 &&& 63) ||| (sb x).toInt64 = lN (a * 256 + x) := by
  rw [wb_shl a (k := 8) (by decide), sb_small hx, nI_l (by omega), wb_or (by omega) (by omega)]
  congr 1
  have h := Nat.two_pow_add_eq_or_of_lt (i := 8) (b := x) (by omega) a
  have e : a * 2 ^ 8 = 2 ^ 8 * a := Nat.mul_comm _ _
  rw [e, ← h]
theorem pkI_N : ∀ (xs : List Nat) (a : Nat), (∀ x ∈ xs, x < 128) → (a + 1) * 256 ^ xs.length ≤ 2 ^ 63 → pkI (lN a) xs = lN (pkN a xs) ∧ pkN a xs + 1 ≤ (a + 1) * 256 ^ xs.length
  | [], a, _, _ => ⟨rfl, by show a + 1 ≤ (a + 1) * 256 ^ 0; omega⟩
  | x :: xs, a, h, hb => by
    have hx := h x List.mem_cons_self
    rw [List.length_cons, Nat.pow_succ] at hb ⊢
    have hp : 1 ≤ 256 ^ xs.length := Nat.pow_pos (by decide)
    have h1 : (a + 1) * (256 ^ xs.length * 256) = (a + 1) * 256 * 256 ^ xs.length := by rw [Nat.mul_assoc, Nat.mul_comm (256 ^ xs.length) 256]
    have h0 : (a + 1) * 256 * 1 ≤ (a + 1) * 256 * 256 ^ xs.length := Nat.mul_le_mul_left _ hp
    have h2 : (a * 256 + x + 1) * 256 ^ xs.length ≤ (a + 1) * 256 * 256 ^ xs.length := Nat.mul_le_mul_right _ (by omega)
    obtain ⟨r1, r2⟩ := pkI_N xs (a * 256 + x) (fun y hy => h y (List.mem_cons_of_mem _ hy)) (by omega)
    refine ⟨?_, by rw [pkN]; omega⟩
    rw [pkI, pk_one hx (by omega), r1, pkN]
theorem nM_lt {B : Nat → Nat} {a n : Nat} : ∀ x ∈ sg B a (nM B a n), x < 128 := by
  intro x hx
  obtain ⟨k, h1, rfl⟩ := sg_mem _ _ _ hx
  have h2 := of_decide_eq_true (pN_all (f := dM) n a k h1)
  omega
/-- a mark of bytes that aren't all digits: its number, filled up with zeros -/
def mK (xs : List Nat) : Nat := pkN 0 xs * 256 ^ (8 - xs.length)
theorem p256 {k : Nat} : 256 ^ k = 2 ^ (8 * k) := by
  have h : (256 : Nat) = 2 ^ 8 := by decide
  rw [h, ← Nat.pow_mul]
theorem mK_lt {xs : List Nat} (h1 : 1 ≤ xs.length) (h2 : xs.length ≤ 8) (h : ∀ x ∈ xs, x < 128) : pkI (lN 0) xs = lN (pkN 0 xs) ∧ mK xs < 2 ^ 63 := by
  cases xs with
  | nil => exact absurd h1 (by decide)
  | cons x r =>
    have hx := h x List.mem_cons_self
    rw [List.length_cons] at h2
    have hb : (x + 1) * 256 ^ r.length ≤ 2 ^ 63 := by
      have h3 : 256 ^ r.length ≤ 256 ^ 7 := Nat.pow_le_pow_right (by decide) (by omega)
      have h4 : (x + 1) * 256 ^ r.length ≤ 128 * 256 ^ 7 := Nat.mul_le_mul (by omega) h3
      exact Nat.le_trans h4 (by decide)
    obtain ⟨r1, r2⟩ := pkI_N r x (fun y hy => h y (List.mem_cons_of_mem _ hy)) hb
    have e0 : pkI (lN 0) (x :: r) = pkI (lN x) r := by
      rw [pkI, pk_one hx (by decide), Nat.zero_mul, Nat.zero_add]
    have e1 : pkN 0 (x :: r) = pkN x r := by rw [pkN, Nat.zero_mul, Nat.zero_add]
    refine ⟨by rw [e0, r1, e1], ?_⟩
    unfold mK
    rw [e1, List.length_cons]
    have h5 : (pkN x r + 1) * 256 ^ (8 - (r.length + 1)) ≤ (x + 1) * 256 ^ r.length * 256 ^ (8 - (r.length + 1)) := Nat.mul_le_mul_right _ r2
    have h6 : (x + 1) * 256 ^ r.length * 256 ^ (8 - (r.length + 1)) = (x + 1) * 256 ^ 7 := by
      rw [Nat.mul_assoc, ← Nat.pow_add]
      congr 2
      omega
    have h7 : (x + 1) * 256 ^ 7 ≤ 128 * 256 ^ 7 := Nat.mul_le_mul_right _ (by omega)
    have h8 : 1 ≤ 256 ^ (8 - (r.length + 1)) := Nat.pow_pos (by decide)
    have h9 : (pkN x r + 1) * 256 ^ (8 - (r.length + 1)) = pkN x r * 256 ^ (8 - (r.length + 1)) + 256 ^ (8 - (r.length + 1)) := by rw [Nat.add_mul, Nat.one_mul]
    have h10 : (128 : Nat) * 256 ^ 7 = 2 ^ 63 := by decide
    omega
/-- what a mark becomes: a number below 2^63 -/
def mV (xs : List Nat) : Nat := if xs.all dD = true then vN 0 xs else mK xs
theorem mR_mV {xs : List Nat} (h1 : 1 ≤ xs.length) (h2 : xs.length ≤ 8) (h : ∀ x ∈ xs, x < 128) (hz : ¬ (xs.all dD = true ∧ 1 < xs.length ∧ xs.head? = some 48)) : mR xs = lN (mV xs) ∧ mV xs < 2 ^ 63 := by
  unfold mR mV
  rw [if_pos ⟨h1, h2⟩]
  by_cases hd : xs.all dD = true
  · rw [if_pos hd, if_pos hd]
    have hv := vN_lt xs 0 (fun x hx => (of_decide_eq_true (List.all_eq_true.mp hd x hx)).2)
    have h9 := pow9 (n := xs.length) (by omega)
    have hn : nR xs = nI (vN 0 xs) := by
      unfold nR
      rw [if_pos ⟨h1, by omega, fun z => hz ⟨hd, z⟩⟩]
    rw [hn, nI_l (by omega)]
    exact ⟨rfl, by omega⟩
  · rw [if_neg hd, if_neg hd]
    obtain ⟨e1, e2⟩ := mK_lt h1 h2 h
    rw [e1, wb_shl _ (by omega)]
    refine ⟨?_, e2⟩
    unfold mK
    rw [p256]
/-- the two ways of a mark -/
theorem vMark_cases (B : Nat → Nat) {a z : Nat} (haz : a ≤ z) : (vMark B a z = none ∧ mR (sg B a (nM B a (z - a))) = (-1)) ∨ (∃ (xs : List Nat) (a1 : Nat), vMark B a z = some (xs, a1) ∧ mR (sg B a (nM B a (z - a))) = lN (mV xs) ∧ mV xs < 2 ^ 63 ∧ a + nM B a (z - a) = a1 ∧ a1 ≤ z ∧ xs.length = a1 - a) := by
  unfold vMark
  have hle : nM B a (z - a) ≤ z - a := pN_lez a (z - a)
  by_cases h : 1 ≤ nM B a (z - a) ∧ nM B a (z - a) ≤ 8 ∧ ¬ ((sg B a (nM B a (z - a))).all dD = true ∧ 1 < nM B a (z - a) ∧ B a = 48)
  · rw [if_pos h]
    have hz : ¬ ((sg B a (nM B a (z - a))).all dD = true ∧ 1 < (sg B a (nM B a (z - a))).length ∧ (sg B a (nM B a (z - a))).head? = some 48) := by
      rintro ⟨z1, z2, z3⟩
      rw [sg_len] at z2
      obtain ⟨k, hk⟩ : ∃ k, nM B a (z - a) = k + 1 := ⟨nM B a (z - a) - 1, by omega⟩
      rw [hk, sg_head] at z3
      exact h.2.2 ⟨z1, z2, Option.some.inj z3⟩
    obtain ⟨e1, e2⟩ := mR_mV (by rw [sg_len]; exact h.1) (by rw [sg_len]; exact h.2.1) nM_lt hz
    exact Or.inr ⟨_, _, rfl, e1, e2, rfl, by omega, by rw [sg_len]; omega⟩
  · rw [if_neg h]
    refine Or.inl ⟨rfl, ?_⟩
    by_cases hl : 1 ≤ nM B a (z - a) ∧ nM B a (z - a) ≤ 8
    · have h4 : (sg B a (nM B a (z - a))).all dD = true ∧ 1 < nM B a (z - a) ∧ B a = 48 := Decidable.not_not.mp (fun q => h ⟨hl.1, hl.2, q⟩)
      rw [mR_dig hl.1 hl.2 h4.1, nR_no (Or.inr (Or.inr h4.2))]
      decide
    · exact mR_no (by omega)
def mLen : List (List Nat) → Nat
  | [] => 0
  | [m] => m.length
  | m :: m1 :: r => m.length + 1 + mLen (m1 :: r)
theorem vPre_len (B : Nat → Nat) (z : Nat) : ∀ (n a : Nat) (ms : List (List Nat)), a ≤ z → vPre B z n a = some ms → ms ≠ [] ∧ ms.length ≤ n ∧ z - a = mLen ms ∧ ∀ m ∈ ms, 1 ≤ m.length ∧ m.length ≤ 8
  | 0, a, ms, _, h => by cases h
  | n + 1, a, ms, haz, h => by
    rw [vPre] at h
    rcases vMark_cases B haz with ⟨e, -⟩ | ⟨xs, a1, e, -, -, e3, e4, e5⟩
    · rw [e] at h
      cases h
    · have hlen : 1 ≤ xs.length ∧ xs.length ≤ 8 := by
        unfold vMark at e
        split at e
        · rename_i hh
          have e6 := (Prod.mk.inj (Option.some.inj e)).1
          rw [← e6, sg_len]
          exact ⟨hh.1, hh.2.1⟩
        · cases e
      rw [e, Option.bind_some] at h
      by_cases hz : a1 = z
      · rw [if_pos hz] at h
        cases h
        refine ⟨by simp, by simp, by show z - a = xs.length; omega, ?_⟩
        intro m hm
        rw [List.mem_singleton] at hm
        rw [hm]
        exact hlen
      · rw [if_neg hz] at h
        unfold vDot at h
        split at h
        · rename_i hd
          rw [Option.bind_some] at h
          cases hp : vPre B z n (a1 + 1) with
          | none => rw [hp] at h; cases h
          | some ms1 =>
            rw [hp] at h
            cases h
            obtain ⟨q1, q2, q3, q4⟩ := vPre_len B z n (a1 + 1) ms1 (by omega) hp
            refine ⟨by simp, by rw [List.length_cons]; omega, ?_, ?_⟩
            · cases ms1 with
              | nil => exact absurd rfl q1
              | cons m1 r =>
                show z - a = xs.length + 1 + mLen (m1 :: r)
                omega
            · intro m hm
              rcases List.mem_cons.mp hm with hm | hm
              · rw [hm]
                exact hlen
              · exact q4 m hm
        · cases h
theorem vDot_t {B : Nat → Nat} {a z ch : Nat} (h : a < z ∧ B a = ch) : vDot B a z ch = some (a + 1) := if_pos h
theorem vDot_f {B : Nat → Nat} {a z ch : Nat} (h : ¬ (a < z ∧ B a = ch)) : vDot B a z ch = none := if_neg h
theorem vVer_n3 {B : Nat → Nat} {a z : Nat} (h : vThree B a z = none) : vVer B a z = none := by rw [vVer, h]; rfl
theorem vVer_s {B : Nat → Nat} {a z x y w a3 : Nat} (h : vThree B a z = some (x, y, w, a3)) (hz : a3 = z) : vVer B a z = some (x, y, w, []) := by
  rw [vVer, h, Option.bind_some]
  exact if_pos hz
theorem vVer_d {B : Nat → Nat} {a z x y w a3 : Nat} (h : vThree B a z = some (x, y, w, a3)) (hz : ¬ a3 = z) (hd : vDot B a3 z 45 = none) : vVer B a z = none := by
  rw [vVer, h, Option.bind_some, if_neg hz]
  show (vDot B a3 z 45).bind _ = none
  rw [hd]
  rfl
theorem vVer_p {B : Nat → Nat} {a z x y w a3 a4 : Nat} (h : vThree B a z = some (x, y, w, a3)) (hz : ¬ a3 = z) (hd : vDot B a3 z 45 = some a4) : vVer B a z = (vPre B z 4 a4).map fun ms => (x, y, w, ms) := by
  rw [vVer, h, Option.bind_some, if_neg hz]
  show (vDot B a3 z 45).bind _ = _
  rw [hd]
  rfl
theorem vPre_n {B : Nat → Nat} {z n a : Nat} (h : vMark B a z = none) : vPre B z (n + 1) a = none := by rw [vPre, h]; rfl
theorem vPre_s {B : Nat → Nat} {z n a a1 : Nat} {xs : List Nat} (h : vMark B a z = some (xs, a1)) (hz : a1 = z) : vPre B z (n + 1) a = some [xs] := by
  rw [vPre, h, Option.bind_some]
  exact if_pos hz
theorem vPre_d {B : Nat → Nat} {z n a a1 : Nat} {xs : List Nat} (h : vMark B a z = some (xs, a1)) (hz : ¬ a1 = z) (hd : vDot B a1 z 46 = none) : vPre B z (n + 1) a = none := by
  rw [vPre, h, Option.bind_some, if_neg hz]
  show (vDot B a1 z 46).bind _ = none
  rw [hd]
  rfl
theorem vPre_c {B : Nat → Nat} {z n a a1 a2 : Nat} {xs : List Nat} (h : vMark B a z = some (xs, a1)) (hz : ¬ a1 = z) (hd : vDot B a1 z 46 = some a2) : vPre B z (n + 1) a = (vPre B z n a2).map fun ms => xs :: ms := by
  rw [vPre, h, Option.bind_some, if_neg hz]
  show (vDot B a1 z 46).bind _ = _
  rw [hd]
  rfl
theorem vPre_l {B : Nat → Nat} {z a a1 : Nat} {xs : List Nat} (h : vMark B a z = some (xs, a1)) (hz : ¬ a1 = z) : vPre B z 1 a = none := by
  rw [vPre, h, Option.bind_some, if_neg hz]
  show (vDot B a1 z 46).bind _ = none
  cases vDot B a1 z 46 <;> rfl
/-- a row with marks behind the third place -/
def pF (F : Nat → Int64) (ms : List (List Nat)) : Nat → Int64 := fun k => if 3 ≤ k ∧ k - 3 < ms.length then lN (mV (ms.getD (k - 3) [])) else F k
def rowOf (v : kVer) : Nat → Int64 := pF (dpF (vp_updL (vp_updL (vp_updL (fun _ => 0) 0 (lN v.1)) 1 (lN v.2.1)) 2 (lN v.2.2.1))) v.2.2.2
theorem seven {P : Nat → Prop} (h0 : P 0) (h1 : P 1) (h2 : P 2) (h3 : P 3) (h4 : P 4) (h5 : P 5) (h6 : P 6) : ∀ k, k < 7 → P k := by
  intro k hk
  rcases (show k = 0 ∨ k = 1 ∨ k = 2 ∨ k = 3 ∨ k = 4 ∨ k = 5 ∨ k = 6 by omega) with rfl | rfl | rfl | rfl | rfl | rfl | rfl <;> assumption
theorem dpF_row {F : Nat → Int64} {x y w : Nat} : ∀ k, k < 7 → dpF (vp_updL (vp_updL (vp_updL F 0 (lN x)) 1 (lN y)) 2 (lN w)) k = dpF (vp_updL (vp_updL (vp_updL (fun _ => 0) 0 (lN x)) 1 (lN y)) 2 (lN w)) k := seven rfl rfl rfl rfl rfl rfl rfl
theorem pF_congr {F G : Nat → Int64} (ms : List (List Nat)) (h : ∀ k, k < 7 → F k = G k) : ∀ k, k < 7 → pF F ms k = pF G ms k := by
  intro k hk
  simp only [pF]
  split
  · rfl
  · exact h k hk
theorem pF1 (F : Nat → Int64) (a : List Nat) : ∀ k, k < 7 → vp_updL F 3 (lN (mV a)) k = pF F [a] k := by
  intro k hk
  rcases (show k = 0 ∨ k = 1 ∨ k = 2 ∨ k = 3 ∨ k = 4 ∨ k = 5 ∨ k = 6 by omega) with rfl | rfl | rfl | rfl | rfl | rfl | rfl <;> simp [vp_updL, pF]
theorem pF2 (F : Nat → Int64) (a b : List Nat) : ∀ k, k < 7 → vp_updL (vp_updL F 3 (lN (mV a))) 4 (lN (mV b)) k = pF F [a, b] k := by
  intro k hk
  rcases (show k = 0 ∨ k = 1 ∨ k = 2 ∨ k = 3 ∨ k = 4 ∨ k = 5 ∨ k = 6 by omega) with rfl | rfl | rfl | rfl | rfl | rfl | rfl <;> simp [vp_updL, pF]
theorem pF3 (F : Nat → Int64) (a b c : List Nat) : ∀ k, k < 7 → vp_updL (vp_updL (vp_updL F 3 (lN (mV a))) 4 (lN (mV b))) 5 (lN (mV c)) k = pF F [a, b, c] k := by
  intro k hk
  rcases (show k = 0 ∨ k = 1 ∨ k = 2 ∨ k = 3 ∨ k = 4 ∨ k = 5 ∨ k = 6 by omega) with rfl | rfl | rfl | rfl | rfl | rfl | rfl <;> simp [vp_updL, pF]
theorem pF4 (F : Nat → Int64) (a b c d : List Nat) : ∀ k, k < 7 → vp_updL (vp_updL (vp_updL (vp_updL F 3 (lN (mV a))) 4 (lN (mV b))) 5 (lN (mV c))) 6 (lN (mV d)) k = pF F [a, b, c, d] k := by
  intro k hk
  rcases (show k = 0 ∨ k = 1 ∨ k = 2 ∨ k = 3 ∨ k = 4 ∨ k = 5 ∨ k = 6 by omega) with rfl | rfl | rfl | rfl | rfl | rfl | rfl <;> simp [vp_updL, pF]
theorem pF0 (F : Nat → Int64) (k : Nat) : pF F [] k = F k := if_neg (fun h => absurd h.2 (Nat.not_lt_zero _))
end
section
set_option maxHeartbeats 800000 in
set_option maxRecDepth 100000 in
theorem mTP_isDigit (l : Launch) (g : kG) (μ : km_M) {x : Nat} (hx0 : x < 256) : Met l yTP_isDigit (Cond.code yTP_isDigit cTP_isDigit 1 (some .boolean) :: Wd) ({ frames := 0, cells := 0, slots := 0, locals := 0 } : Room) (kPre g μ [.int (sb x)]) (kQi g (fun (r : Int32) (μ1 : km_M) => r = bI (decide (48 ≤ x ∧ x ≤ 57)) ∧ μ1 = μ)) 0 0 (kF g) := by
  refine k_met (by decide) (Nat.le_of_ble_eq_true rfl) ?_
  intro p e s m below meth c hx hb hr hlocks hml hown hnm hW ls hl H locs hM
  have hl : lv_has ls 1 [(0, .int (sb x))] := hl
  refine lv_iload_n hx hb dTP_isDigit_0 rfl (lv_at hl 0 rfl) ?_
  refine lv_bipush (v := nI 48) hx hb dTP_isDigit_1 (by decide) ?_
  refine lv_icmp_lt (tgt := 16) hx hb dTP_isDigit_3 (by decide) (fun h3 => ?_) (fun h3 => ?_)
  · have h3 := (sJ_lt_t (n := x) (c := 48) (hx0) (by omega)).mp h3
    refine lv_iconst (v := nI 0) hx hb dTP_isDigit_16 (by decide) ?_
    exact kr_z hx hb hr (by decide) hlocks hM dTP_isDigit_17 (⟨by first | rfl | exact bI_t (by omega) | exact bI_f (by omega), rfl⟩)
  · have h3 := (sJ_lt_f (n := x) (c := 48) (hx0) (by omega)).mp h3
    refine lv_iload_n hx hb dTP_isDigit_6 rfl (lv_at hl 0 rfl) ?_
    refine lv_bipush (v := nI 57) hx hb dTP_isDigit_7 (by decide) ?_
    refine lv_icmp_gt (tgt := 16) hx hb dTP_isDigit_9 (by decide) (fun h9 => ?_) (fun h9 => ?_)
    · have h9 := (sJ_gt_t (n := x) (c := 57) (hx0) (by omega)).mp h9
      refine lv_iconst (v := nI 0) hx hb dTP_isDigit_16 (by decide) ?_
      exact kr_z hx hb hr (by decide) hlocks hM dTP_isDigit_17 (⟨by first | rfl | exact bI_t (by omega) | exact bI_f (by omega), rfl⟩)
    · have h9 := (sJ_gt_f (n := x) (c := 57) (hx0) (by omega)).mp h9
      refine lv_iconst (v := nI 1) hx hb dTP_isDigit_12 (by decide) ?_
      refine lv_goto (tgt := 17) hx hb dTP_isDigit_13 (by decide) ?_
      exact kr_z hx hb hr (by decide) hlocks hM dTP_isDigit_17 (⟨by first | rfl | exact bI_t (by omega) | exact bI_f (by omega), rfl⟩)
set_option maxHeartbeats 800000 in
set_option maxRecDepth 100000 in
theorem mTP_isLetterOrHyphen (l : Launch) (g : kG) (μ : km_M) {x : Nat} (hx0 : x < 256) : Met l yTP_isLetterOrHyphen (Cond.code yTP_isLetterOrHyphen cTP_isLetterOrHyphen 1 (some .boolean) :: Wd) ({ frames := 0, cells := 0, slots := 0, locals := 0 } : Room) (kPre g μ [.int (sb x)]) (kQi g (fun (r : Int32) (μ1 : km_M) => r = bI (decide ((97 ≤ x ∧ x ≤ 122) ∨ (65 ≤ x ∧ x ≤ 90) ∨ x = 45)) ∧ μ1 = μ)) 0 0 (kF g) := by
  refine k_met (by decide) (Nat.le_of_ble_eq_true rfl) ?_
  intro p e s m below meth c hx hb hr hlocks hml hown hnm hW ls hl H locs hM
  have hl : lv_has ls 1 [(0, .int (sb x))] := hl
  refine lv_iload_n hx hb dTP_isLetterOrHyphen_0 rfl (lv_at hl 0 rfl) ?_
  refine lv_bipush (v := nI 97) hx hb dTP_isLetterOrHyphen_1 (by decide) ?_
  refine lv_icmp_lt (tgt := 12) hx hb dTP_isLetterOrHyphen_3 (by decide) (fun h3 => ?_) (fun h3 => ?_)
  · have h3 := (sJ_lt_t (n := x) (c := 97) (hx0) (by omega)).mp h3
    refine lv_iload_n hx hb dTP_isLetterOrHyphen_12 rfl (lv_at hl 0 rfl) ?_
    refine lv_bipush (v := nI 65) hx hb dTP_isLetterOrHyphen_13 (by decide) ?_
    refine lv_icmp_lt (tgt := 24) hx hb dTP_isLetterOrHyphen_15 (by decide) (fun h15 => ?_) (fun h15 => ?_)
    · have h15 := (sJ_lt_t (n := x) (c := 65) (hx0) (by omega)).mp h15
      refine lv_iload_n hx hb dTP_isLetterOrHyphen_24 rfl (lv_at hl 0 rfl) ?_
      refine lv_bipush (v := nI 45) hx hb dTP_isLetterOrHyphen_25 (by decide) ?_
      refine lv_icmp_ne (tgt := 34) hx hb dTP_isLetterOrHyphen_27 (by decide) (fun h27 => ?_) (fun h27 => ?_)
      · have h27 := (sJ_ne_t (n := x) (c := 45) (hx0) (by omega)).mp h27
        refine lv_iconst (v := nI 0) hx hb dTP_isLetterOrHyphen_34 (by decide) ?_
        exact kr_z hx hb hr (by decide) hlocks hM dTP_isLetterOrHyphen_35 (⟨by first | rfl | exact bI_t (by omega) | exact bI_f (by omega), rfl⟩)
      · have h27 := (sJ_ne_f (n := x) (c := 45) (hx0) (by omega)).mp h27
        refine lv_iconst (v := nI 1) hx hb dTP_isLetterOrHyphen_30 (by decide) ?_
        refine lv_goto (tgt := 35) hx hb dTP_isLetterOrHyphen_31 (by decide) ?_
        exact kr_z hx hb hr (by decide) hlocks hM dTP_isLetterOrHyphen_35 (⟨by first | rfl | exact bI_t (by omega) | exact bI_f (by omega), rfl⟩)
    · have h15 := (sJ_lt_f (n := x) (c := 65) (hx0) (by omega)).mp h15
      refine lv_iload_n hx hb dTP_isLetterOrHyphen_18 rfl (lv_at hl 0 rfl) ?_
      refine lv_bipush (v := nI 90) hx hb dTP_isLetterOrHyphen_19 (by decide) ?_
      refine lv_icmp_le (tgt := 30) hx hb dTP_isLetterOrHyphen_21 (by decide) (fun h21 => ?_) (fun h21 => ?_)
      · have h21 := (sJ_le_t (n := x) (c := 90) (hx0) (by omega)).mp h21
        refine lv_iconst (v := nI 1) hx hb dTP_isLetterOrHyphen_30 (by decide) ?_
        refine lv_goto (tgt := 35) hx hb dTP_isLetterOrHyphen_31 (by decide) ?_
        exact kr_z hx hb hr (by decide) hlocks hM dTP_isLetterOrHyphen_35 (⟨by first | rfl | exact bI_t (by omega) | exact bI_f (by omega), rfl⟩)
      · have h21 := (sJ_le_f (n := x) (c := 90) (hx0) (by omega)).mp h21
        refine lv_iload_n hx hb dTP_isLetterOrHyphen_24 rfl (lv_at hl 0 rfl) ?_
        refine lv_bipush (v := nI 45) hx hb dTP_isLetterOrHyphen_25 (by decide) ?_
        refine lv_icmp_ne (tgt := 34) hx hb dTP_isLetterOrHyphen_27 (by decide) (fun h27 => ?_) (fun h27 => ?_)
        · have h27 := (sJ_ne_t (n := x) (c := 45) (hx0) (by omega)).mp h27
          refine lv_iconst (v := nI 0) hx hb dTP_isLetterOrHyphen_34 (by decide) ?_
          exact kr_z hx hb hr (by decide) hlocks hM dTP_isLetterOrHyphen_35 (⟨by first | rfl | exact bI_t (by omega) | exact bI_f (by omega), rfl⟩)
        · have h27 := (sJ_ne_f (n := x) (c := 45) (hx0) (by omega)).mp h27
          refine lv_iconst (v := nI 1) hx hb dTP_isLetterOrHyphen_30 (by decide) ?_
          refine lv_goto (tgt := 35) hx hb dTP_isLetterOrHyphen_31 (by decide) ?_
          exact kr_z hx hb hr (by decide) hlocks hM dTP_isLetterOrHyphen_35 (⟨by first | rfl | exact bI_t (by omega) | exact bI_f (by omega), rfl⟩)
  · have h3 := (sJ_lt_f (n := x) (c := 97) (hx0) (by omega)).mp h3
    refine lv_iload_n hx hb dTP_isLetterOrHyphen_6 rfl (lv_at hl 0 rfl) ?_
    refine lv_bipush (v := nI 122) hx hb dTP_isLetterOrHyphen_7 (by decide) ?_
    refine lv_icmp_le (tgt := 30) hx hb dTP_isLetterOrHyphen_9 (by decide) (fun h9 => ?_) (fun h9 => ?_)
    · have h9 := (sJ_le_t (n := x) (c := 122) (hx0) (by omega)).mp h9
      refine lv_iconst (v := nI 1) hx hb dTP_isLetterOrHyphen_30 (by decide) ?_
      refine lv_goto (tgt := 35) hx hb dTP_isLetterOrHyphen_31 (by decide) ?_
      exact kr_z hx hb hr (by decide) hlocks hM dTP_isLetterOrHyphen_35 (⟨by first | rfl | exact bI_t (by omega) | exact bI_f (by omega), rfl⟩)
    · have h9 := (sJ_le_f (n := x) (c := 122) (hx0) (by omega)).mp h9
      refine lv_iload_n hx hb dTP_isLetterOrHyphen_12 rfl (lv_at hl 0 rfl) ?_
      refine lv_bipush (v := nI 65) hx hb dTP_isLetterOrHyphen_13 (by decide) ?_
      refine lv_icmp_lt (tgt := 24) hx hb dTP_isLetterOrHyphen_15 (by decide) (fun h15 => ?_) (fun h15 => ?_)
      · have h15 := (sJ_lt_t (n := x) (c := 65) (hx0) (by omega)).mp h15
        refine lv_iload_n hx hb dTP_isLetterOrHyphen_24 rfl (lv_at hl 0 rfl) ?_
        refine lv_bipush (v := nI 45) hx hb dTP_isLetterOrHyphen_25 (by decide) ?_
        refine lv_icmp_ne (tgt := 34) hx hb dTP_isLetterOrHyphen_27 (by decide) (fun h27 => ?_) (fun h27 => ?_)
        · have h27 := (sJ_ne_t (n := x) (c := 45) (hx0) (by omega)).mp h27
          refine lv_iconst (v := nI 0) hx hb dTP_isLetterOrHyphen_34 (by decide) ?_
          exact kr_z hx hb hr (by decide) hlocks hM dTP_isLetterOrHyphen_35 (⟨by first | rfl | exact bI_t (by omega) | exact bI_f (by omega), rfl⟩)
        · have h27 := (sJ_ne_f (n := x) (c := 45) (hx0) (by omega)).mp h27
          refine lv_iconst (v := nI 1) hx hb dTP_isLetterOrHyphen_30 (by decide) ?_
          refine lv_goto (tgt := 35) hx hb dTP_isLetterOrHyphen_31 (by decide) ?_
          exact kr_z hx hb hr (by decide) hlocks hM dTP_isLetterOrHyphen_35 (⟨by first | rfl | exact bI_t (by omega) | exact bI_f (by omega), rfl⟩)
      · have h15 := (sJ_lt_f (n := x) (c := 65) (hx0) (by omega)).mp h15
        refine lv_iload_n hx hb dTP_isLetterOrHyphen_18 rfl (lv_at hl 0 rfl) ?_
        refine lv_bipush (v := nI 90) hx hb dTP_isLetterOrHyphen_19 (by decide) ?_
        refine lv_icmp_le (tgt := 30) hx hb dTP_isLetterOrHyphen_21 (by decide) (fun h21 => ?_) (fun h21 => ?_)
        · have h21 := (sJ_le_t (n := x) (c := 90) (hx0) (by omega)).mp h21
          refine lv_iconst (v := nI 1) hx hb dTP_isLetterOrHyphen_30 (by decide) ?_
          refine lv_goto (tgt := 35) hx hb dTP_isLetterOrHyphen_31 (by decide) ?_
          exact kr_z hx hb hr (by decide) hlocks hM dTP_isLetterOrHyphen_35 (⟨by first | rfl | exact bI_t (by omega) | exact bI_f (by omega), rfl⟩)
        · have h21 := (sJ_le_f (n := x) (c := 90) (hx0) (by omega)).mp h21
          refine lv_iload_n hx hb dTP_isLetterOrHyphen_24 rfl (lv_at hl 0 rfl) ?_
          refine lv_bipush (v := nI 45) hx hb dTP_isLetterOrHyphen_25 (by decide) ?_
          refine lv_icmp_ne (tgt := 34) hx hb dTP_isLetterOrHyphen_27 (by decide) (fun h27 => ?_) (fun h27 => ?_)
          · have h27 := (sJ_ne_t (n := x) (c := 45) (hx0) (by omega)).mp h27
            refine lv_iconst (v := nI 0) hx hb dTP_isLetterOrHyphen_34 (by decide) ?_
            exact kr_z hx hb hr (by decide) hlocks hM dTP_isLetterOrHyphen_35 (⟨by first | rfl | exact bI_t (by omega) | exact bI_f (by omega), rfl⟩)
          · have h27 := (sJ_ne_f (n := x) (c := 45) (hx0) (by omega)).mp h27
            refine lv_iconst (v := nI 1) hx hb dTP_isLetterOrHyphen_30 (by decide) ?_
            refine lv_goto (tgt := 35) hx hb dTP_isLetterOrHyphen_31 (by decide) ?_
            exact kr_z hx hb hr (by decide) hlocks hM dTP_isLetterOrHyphen_35 (⟨by first | rfl | exact bI_t (by omega) | exact bI_f (by omega), rfl⟩)
set_option maxHeartbeats 800000 in
set_option maxRecDepth 100000 in
theorem mTP_hasRoomFor (l : Launch) (g : kG) (μ : km_M) {ta ba sa oa ln ai zi : Nat} (ht : μ ta = some (.inr (1, [.ref ba, .ref sa, .ref oa, .int (nI ln), .int (nI ai), .int (nI zi)]))) {k : Nat} (hk : k ≤ 400) (hln : ln ≤ 400) : Met l yTP_hasRoomFor (Cond.code yTP_hasRoomFor cTP_hasRoomFor 2 (some .boolean) :: Wd) ({ frames := 0, cells := 0, slots := 0, locals := 0 } : Room) (kPre g μ [.ref ta, .int (nI k)]) (kQi g (fun (r : Int32) (μ1 : km_M) => r = bI (decide (ln + k ≤ 400)) ∧ μ1 = μ)) 0 0 (kF g) := by
  refine k_met (by decide) (Nat.le_of_ble_eq_true rfl) ?_
  intro p e s m below meth c hx hb hr hlocks hml hown hnm hW ls hl H locs hM
  have hl : lv_has ls 2 [(0, .ref ta), (1, .int (nI k))] := hl
  refine lv_aload_n hx hb dTP_hasRoomFor_0 rfl (lv_at hl 0 rfl) ?_
  refine k_get (own := RTP) (ref := RTP) (C := RTP) (T := TTP) (N := 6) (ci := 1) (v := .int (nI ln)) hx hb hW inTP hown hM ht rfl 3 (by decide) (hW _ w_37) (fun _ h => h) rfl dTP_hasRoomFor_1 ?_
  refine lv_iload_n hx hb dTP_hasRoomFor_4 rfl (lv_at hl 1 rfl) ?_
  refine lv_iadd hx hb dTP_hasRoomFor_5 ?_
  refine topi_eq (y := nI (ln + k)) (nI_add ln k) ?_
  refine lv_sipush (v := nI 400) hx hb dTP_hasRoomFor_6 (by decide) ?_
  refine lv_icmp_gt (tgt := 16) hx hb dTP_hasRoomFor_9 (by decide) (fun h9 => ?_) (fun h9 => ?_)
  · have h9 := (nJ_gt_t (a := ln + k) (b := 400) (by omega) (by omega)).mp h9
    refine lv_iconst (v := nI 0) hx hb dTP_hasRoomFor_16 (by decide) ?_
    exact kr_z hx hb hr (by decide) hlocks hM dTP_hasRoomFor_17 (⟨by first | rfl | exact bI_t (by omega) | exact bI_f (by omega), rfl⟩)
  · have h9 := (nJ_gt_f (a := ln + k) (b := 400) (by omega) (by omega)).mp h9
    refine lv_iconst (v := nI 1) hx hb dTP_hasRoomFor_12 (by decide) ?_
    refine lv_goto (tgt := 17) hx hb dTP_hasRoomFor_13 (by decide) ?_
    exact kr_z hx hb hr (by decide) hlocks hM dTP_hasRoomFor_17 (⟨by first | rfl | exact bI_t (by omega) | exact bI_f (by omega), rfl⟩)
set_option maxHeartbeats 800000 in
set_option maxRecDepth 100000 in
theorem mTP_isAtStop (l : Launch) (g : kG) (μ : km_M) {ta ba sa oa ln ai zi : Nat} (ht : μ ta = some (.inr (1, [.ref ba, .ref sa, .ref oa, .int (nI ln), .int (nI ai), .int (nI zi)]))) (hai : ai ≤ 400) (hzi : zi ≤ 400) : Met l yTP_isAtStop (Cond.code yTP_isAtStop cTP_isAtStop 1 (some .boolean) :: Wd) ({ frames := 0, cells := 0, slots := 0, locals := 0 } : Room) (kPre g μ [.ref ta]) (kQi g (fun (r : Int32) (μ1 : km_M) => r = bI (decide (ai = zi)) ∧ μ1 = μ)) 0 0 (kF g) := by
  refine k_met (by decide) (Nat.le_of_ble_eq_true rfl) ?_
  intro p e s m below meth c hx hb hr hlocks hml hown hnm hW ls hl H locs hM
  have hl : lv_has ls 1 [(0, .ref ta)] := hl
  refine lv_aload_n hx hb dTP_isAtStop_0 rfl (lv_at hl 0 rfl) ?_
  refine k_get (own := RTP) (ref := RTP) (C := RTP) (T := TTP) (N := 6) (ci := 1) (v := .int (nI ai)) hx hb hW inTP hown hM ht rfl 4 (by decide) (hW _ w_39) (fun _ h => h) rfl dTP_isAtStop_1 ?_
  refine lv_aload_n hx hb dTP_isAtStop_4 rfl (lv_at hl 0 rfl) ?_
  refine k_get (own := RTP) (ref := RTP) (C := RTP) (T := TTP) (N := 6) (ci := 1) (v := .int (nI zi)) hx hb hW inTP hown hM ht rfl 5 (by decide) (hW _ w_41) (fun _ h => h) rfl dTP_isAtStop_5 ?_
  refine lv_icmp_ne (tgt := 15) hx hb dTP_isAtStop_8 (by decide) (fun h8 => ?_) (fun h8 => ?_)
  · have h8 := (nJ_ne_t (a := ai) (b := zi) (by omega) (by omega)).mp h8
    refine lv_iconst (v := nI 0) hx hb dTP_isAtStop_15 (by decide) ?_
    exact kr_z hx hb hr (by decide) hlocks hM dTP_isAtStop_16 (⟨by first | rfl | exact bI_t (by omega) | exact bI_f (by omega), rfl⟩)
  · have h8 := (nJ_ne_f (a := ai) (b := zi) (by omega) (by omega)).mp h8
    refine lv_iconst (v := nI 1) hx hb dTP_isAtStop_11 (by decide) ?_
    refine lv_goto (tgt := 16) hx hb dTP_isAtStop_12 (by decide) ?_
    exact kr_z hx hb hr (by decide) hlocks hM dTP_isAtStop_16 (⟨by first | rfl | exact bI_t (by omega) | exact bI_f (by omega), rfl⟩)
set_option maxHeartbeats 800000 in
set_option maxRecDepth 100000 in
theorem mTP_isAtOrWord (l : Launch) (g : kG) (μ : km_M) {ta ba sa oa ln ai zi : Nat} (ht : μ ta = some (.inr (1, [.ref ba, .ref sa, .ref oa, .int (nI ln), .int (nI ai), .int (nI zi)]))) {B : Nat → Nat} (hB : ∀ k, B k < 256) (hb0 : μ ba = some (.inl (g.2.2.1 0, 400, .inl (fun j => sb (B j))))) (hai : ai ≤ zi) (hzi : zi ≤ 400) : Met l yTP_isAtOrWord (Cond.code yTP_isAtOrWord cTP_isAtOrWord 1 (some .boolean) :: Wd) ({ frames := 0, cells := 0, slots := 0, locals := 0 } : Room) (kPre g μ [.ref ta]) (kQi g (fun (r : Int32) (μ1 : km_M) => r = bI (decide (zi - ai = 2 ∧ B ai = 124 ∧ B (ai + 1) = 124)) ∧ μ1 = μ)) 0 0 (kF g) := by
  refine k_met (by decide) (Nat.le_of_ble_eq_true rfl) ?_
  intro p e s m below meth c hx hb hr hlocks hml hown hnm hW ls hl H locs hM
  have hl : lv_has ls 1 [(0, .ref ta)] := hl
  refine lv_aload_n hx hb dTP_isAtOrWord_0 rfl (lv_at hl 0 rfl) ?_
  refine k_get (own := RTP) (ref := RTP) (C := RTP) (T := TTP) (N := 6) (ci := 1) (v := .int (nI zi)) hx hb hW inTP hown hM ht rfl 5 (by decide) (hW _ w_41) (fun _ h => h) rfl dTP_isAtOrWord_1 ?_
  refine lv_aload_n hx hb dTP_isAtOrWord_4 rfl (lv_at hl 0 rfl) ?_
  refine k_get (own := RTP) (ref := RTP) (C := RTP) (T := TTP) (N := 6) (ci := 1) (v := .int (nI ai)) hx hb hW inTP hown hM ht rfl 4 (by decide) (hW _ w_39) (fun _ h => h) rfl dTP_isAtOrWord_5 ?_
  refine lv_isub hx hb dTP_isAtOrWord_8 ?_
  refine topi_eq (y := nI (zi - ai)) (pk_sub (a := zi) (b := ai) (by omega)) ?_
  refine lv_iconst (v := nI 2) hx hb dTP_isAtOrWord_9 (by decide) ?_
  refine lv_icmp_ne (tgt := 47) hx hb dTP_isAtOrWord_10 (by decide) (fun h10 => ?_) (fun h10 => ?_)
  · have h10 := (nJ_ne_t (a := zi - ai) (b := 2) (by omega) (by omega)).mp h10
    refine lv_iconst (v := nI 0) hx hb dTP_isAtOrWord_47 (by decide) ?_
    exact kr_z hx hb hr (by decide) hlocks hM dTP_isAtOrWord_48 (⟨by first | rfl | exact bI_t (by omega) | exact bI_f (by omega), rfl⟩)
  · have h10 := (nJ_ne_f (a := zi - ai) (b := 2) (by omega) (by omega)).mp h10
    refine lv_aload_n hx hb dTP_isAtOrWord_13 rfl (lv_at hl 0 rfl) ?_
    refine k_get (own := RTP) (ref := RTP) (C := RTP) (T := TTP) (N := 6) (ci := 1) (v := .ref ba) hx hb hW inTP hown hM ht rfl 0 (by decide) (hW _ w_34) (fun _ h => h) rfl dTP_isAtOrWord_14 ?_
    refine lv_aload_n hx hb dTP_isAtOrWord_17 rfl (lv_at hl 0 rfl) ?_
    refine k_get (own := RTP) (ref := RTP) (C := RTP) (T := TTP) (N := 6) (ci := 1) (v := .int (nI ai)) hx hb hW inTP hown hM ht rfl 4 (by decide) (hW _ w_39) (fun _ h => h) rfl dTP_isAtOrWord_18 ?_
    refine k_bald (i := ai) hx hb hM 0 hb0 rfl (by omega) (by omega) dTP_isAtOrWord_21 ?_
    refine lv_bipush (v := nI 124) hx hb dTP_isAtOrWord_22 (by decide) ?_
    refine lv_icmp_ne (tgt := 47) hx hb dTP_isAtOrWord_24 (by decide) (fun h24 => ?_) (fun h24 => ?_)
    · have h24 := (sJ_ne_t (n := B ai) (c := 124) (hB _) (by omega)).mp h24
      refine lv_iconst (v := nI 0) hx hb dTP_isAtOrWord_47 (by decide) ?_
      exact kr_z hx hb hr (by decide) hlocks hM dTP_isAtOrWord_48 (⟨by first | rfl | exact bI_t (by omega) | exact bI_f (by omega), rfl⟩)
    · have h24 := (sJ_ne_f (n := B ai) (c := 124) (hB _) (by omega)).mp h24
      refine lv_aload_n hx hb dTP_isAtOrWord_27 rfl (lv_at hl 0 rfl) ?_
      refine k_get (own := RTP) (ref := RTP) (C := RTP) (T := TTP) (N := 6) (ci := 1) (v := .ref ba) hx hb hW inTP hown hM ht rfl 0 (by decide) (hW _ w_34) (fun _ h => h) rfl dTP_isAtOrWord_28 ?_
      refine lv_aload_n hx hb dTP_isAtOrWord_31 rfl (lv_at hl 0 rfl) ?_
      refine k_get (own := RTP) (ref := RTP) (C := RTP) (T := TTP) (N := 6) (ci := 1) (v := .int (nI ai)) hx hb hW inTP hown hM ht rfl 4 (by decide) (hW _ w_39) (fun _ h => h) rfl dTP_isAtOrWord_32 ?_
      refine lv_iconst (v := nI 1) hx hb dTP_isAtOrWord_35 (by decide) ?_
      refine lv_iadd hx hb dTP_isAtOrWord_36 ?_
      refine topi_eq (y := nI (ai + 1)) (nI_add ai 1) ?_
      refine k_bald (i := ai + 1) hx hb hM 0 hb0 rfl (by omega) (by omega) dTP_isAtOrWord_37 ?_
      refine lv_bipush (v := nI 124) hx hb dTP_isAtOrWord_38 (by decide) ?_
      refine lv_icmp_ne (tgt := 47) hx hb dTP_isAtOrWord_40 (by decide) (fun h40 => ?_) (fun h40 => ?_)
      · have h40 := (sJ_ne_t (n := B (ai + 1)) (c := 124) (hB _) (by omega)).mp h40
        refine lv_iconst (v := nI 0) hx hb dTP_isAtOrWord_47 (by decide) ?_
        exact kr_z hx hb hr (by decide) hlocks hM dTP_isAtOrWord_48 (⟨by first | rfl | exact bI_t (by omega) | exact bI_f (by omega), rfl⟩)
      · have h40 := (sJ_ne_f (n := B (ai + 1)) (c := 124) (hB _) (by omega)).mp h40
        refine lv_iconst (v := nI 1) hx hb dTP_isAtOrWord_43 (by decide) ?_
        refine lv_goto (tgt := 48) hx hb dTP_isAtOrWord_44 (by decide) ?_
        exact kr_z hx hb hr (by decide) hlocks hM dTP_isAtOrWord_48 (⟨by first | rfl | exact bI_t (by omega) | exact bI_f (by omega), rfl⟩)
set_option maxHeartbeats 800000 in
set_option maxRecDepth 100000 in
theorem mTP_skip (l : Launch) (g : kG) (μ : km_M) {ta ba sa oa ln ai zi : Nat} (ht : μ ta = some (.inr (1, [.ref ba, .ref sa, .ref oa, .int (nI ln), .int (nI ai), .int (nI zi)]))) {B : Nat → Nat} (hB : ∀ k, B k < 256) (hb0 : μ ba = some (.inl (g.2.2.1 0, 400, .inl (fun j => sb (B j))))) {ch : Nat} (hch : ch < 128) (hai : ai ≤ zi) (hzi : zi ≤ 400) : Met l yTP_skip (Cond.code yTP_skip cTP_skip 2 (some .boolean) :: Wd) ({ frames := 0, cells := 0, slots := 0, locals := 0 } : Room) (kPre g μ [.ref ta, .int (nI ch)]) (kQi g (fun (r : Int32) (μ1 : km_M) => r = bI (decide (ai < zi ∧ B ai = ch)) ∧ μ1 = if ai < zi ∧ B ai = ch then km_up μ ta (.inr (1, [.ref ba, .ref sa, .ref oa, .int (nI ln), .int (nI (ai + 1)), .int (nI zi)])) else μ)) 0 0 (kF g) := by
  refine k_met (by decide) (Nat.le_of_ble_eq_true rfl) ?_
  intro p e s m below meth c hx hb hr hlocks hml hown hnm hW ls hl H locs hM
  have hl : lv_has ls 2 [(0, .ref ta), (1, .int (nI ch))] := hl
  refine lv_aload_n hx hb dTP_skip_0 rfl (lv_at hl 0 rfl) ?_
  refine k_get (own := RTP) (ref := RTP) (C := RTP) (T := TTP) (N := 6) (ci := 1) (v := .int (nI ai)) hx hb hW inTP hown hM ht rfl 4 (by decide) (hW _ w_39) (fun _ h => h) rfl dTP_skip_1 ?_
  refine lv_aload_n hx hb dTP_skip_4 rfl (lv_at hl 0 rfl) ?_
  refine k_get (own := RTP) (ref := RTP) (C := RTP) (T := TTP) (N := 6) (ci := 1) (v := .int (nI zi)) hx hb hW inTP hown hM ht rfl 5 (by decide) (hW _ w_41) (fun _ h => h) rfl dTP_skip_5 ?_
  refine lv_icmp_ge (tgt := 36) hx hb dTP_skip_8 (by decide) (fun h8 => ?_) (fun h8 => ?_)
  · have h8 := (nJ_ge_t (a := ai) (b := zi) (by omega) (by omega)).mp h8
    refine lv_iconst (v := nI 0) hx hb dTP_skip_36 (by decide) ?_
    exact kr_z hx hb hr (by decide) hlocks hM dTP_skip_37 (⟨by first | exact bI_t (by omega) | exact bI_f (by omega), by rw [if_neg (by omega)]⟩)
  · have h8 := (nJ_ge_f (a := ai) (b := zi) (by omega) (by omega)).mp h8
    refine lv_aload_n hx hb dTP_skip_11 rfl (lv_at hl 0 rfl) ?_
    refine k_get (own := RTP) (ref := RTP) (C := RTP) (T := TTP) (N := 6) (ci := 1) (v := .ref ba) hx hb hW inTP hown hM ht rfl 0 (by decide) (hW _ w_34) (fun _ h => h) rfl dTP_skip_12 ?_
    refine lv_aload_n hx hb dTP_skip_15 rfl (lv_at hl 0 rfl) ?_
    refine k_get (own := RTP) (ref := RTP) (C := RTP) (T := TTP) (N := 6) (ci := 1) (v := .int (nI ai)) hx hb hW inTP hown hM ht rfl 4 (by decide) (hW _ w_39) (fun _ h => h) rfl dTP_skip_16 ?_
    refine k_bald (i := ai) hx hb hM 0 hb0 rfl (by omega) (by omega) dTP_skip_19 ?_
    refine lv_iload_n hx hb dTP_skip_20 rfl (lv_at hl 1 rfl) ?_
    refine lv_icmp_ne (tgt := 36) hx hb dTP_skip_21 (by decide) (fun h21 => ?_) (fun h21 => ?_)
    · have h21 := (sJ_ne_t (n := B ai) (c := ch) (hB _) (by omega)).mp h21
      refine lv_iconst (v := nI 0) hx hb dTP_skip_36 (by decide) ?_
      exact kr_z hx hb hr (by decide) hlocks hM dTP_skip_37 (⟨by first | exact bI_t (by omega) | exact bI_f (by omega), by rw [if_neg (by omega)]⟩)
    · have h21 := (sJ_ne_f (n := B ai) (c := ch) (hB _) (by omega)).mp h21
      refine lv_aload_n hx hb dTP_skip_24 rfl (lv_at hl 0 rfl) ?_
      refine lv_dup hx hb dTP_skip_25 rfl ?_
      refine k_get (own := RTP) (ref := RTP) (C := RTP) (T := TTP) (N := 6) (ci := 1) (v := .int (nI ai)) hx hb hW inTP hown hM ht rfl 4 (by decide) (hW _ w_39) (fun _ h => h) rfl dTP_skip_26 ?_
      refine lv_iconst (v := nI 1) hx hb dTP_skip_29 (by decide) ?_
      refine lv_iadd hx hb dTP_skip_30 ?_
      refine topi_eq (y := nI (ai + 1)) (nI_add ai 1) ?_
      refine k_put (own := RTP) (ref := RTP) (C := RTP) (T := TTP) (N := 6) (ci := 1) (v := .int (nI (ai + 1))) (ty := .int) (fs' := [.ref ba, .ref sa, .ref oa, .int (nI ln), .int (nI (ai + 1)), .int (nI zi)]) hx hb hW inTP tyTP tyokTP nmokTP hown hM ht rfl 4 (by decide) (hW _ w_39) (fun _ h => h) rfl (by decide +kernel) rfl rfl (Nat.le_of_ble_eq_true rfl) dTP_skip_31 rfl (fun H locs hM => ?_)
      have hM : kS g (km_up μ ta (.inr (1, [.ref ba, .ref sa, .ref oa, .int (nI ln), .int (nI (ai + 1)), .int (nI zi)]))) s H locs := hM
      refine lv_iconst (v := nI 1) hx hb dTP_skip_34 (by decide) ?_
      exact kr_z hx hb hr (by decide) hlocks hM dTP_skip_35 (⟨by first | exact bI_t (by omega) | exact bI_f (by omega), by rw [if_pos (by omega)]⟩)
set_option maxHeartbeats 800000 in
set_option maxRecDepth 100000 in
theorem mTP_addFour (l : Launch) (g : kG) (μ : km_M) {ta ba sa oa ln ai zi : Nat} (ht : μ ta = some (.inr (1, [.ref ba, .ref sa, .ref oa, .int (nI ln), .int (nI ai), .int (nI zi)]))) {B : Nat → Nat} (hB : ∀ k, B k < 256) (hb0 : μ ba = some (.inl (g.2.2.1 0, 400, .inl (fun j => sb (B j))))) {v : Int32} (hln : ln + 4 ≤ 400) : Met l yTP_addFour (Cond.code yTP_addFour cTP_addFour 3 none :: Wd) ({ frames := 0, cells := 0, slots := 0, locals := 0 } : Room) (kPre g μ [.ref ta, .int v]) (kQv g (fun (μ1 : km_M) => μ1 = km_up (km_up μ ba (.inl (g.2.2.1 0, 400, .inl (fun j => sb ((pb4 B ln v) j))))) ta (.inr (1, [.ref ba, .ref sa, .ref oa, .int (nI (ln + 4)), .int (nI ai), .int (nI zi)])))) 0 0 (kF g) := by
  refine k_met (by decide) (Nat.le_of_ble_eq_true rfl) ?_
  intro p e s m below meth c hx hb hr hlocks hml hown hnm hW ls hl H locs hM
  have hl : lv_has ls 3 [(0, .ref ta), (1, .int v)] := hl
  refine lv_bipush (v := nI 24) hx hb dTP_addFour_0 (by decide) ?_
  refine lv_istore_n (lv' := [(2, .int (nI 24)), (0, .ref ta), (1, .int v)]) hx hb dTP_addFour_2 rfl hl (by decide) rfl (fun ls hl => ?_)
  refine lv_iload_n hx hb dTP_addFour_3 rfl (lv_at hl 0 rfl) ?_
  refine lv_if_lt (tgt := 36) hx hb dTP_addFour_4 (by decide) (fun h => absurd h (by decide)) (fun _ => ?_)
  refine lv_aload_n hx hb dTP_addFour_7 rfl (lv_at hl 1 rfl) ?_
  refine k_get (own := RTP) (ref := RTP) (C := RTP) (T := TTP) (N := 6) (ci := 1) (v := .ref ba) hx hb hW inTP hown hM ht rfl 0 (by decide) (hW _ w_34) (fun _ h => h) rfl dTP_addFour_8 ?_
  refine lv_aload_n hx hb dTP_addFour_11 rfl (lv_at hl 1 rfl) ?_
  refine k_get (own := RTP) (ref := RTP) (C := RTP) (T := TTP) (N := 6) (ci := 1) (v := .int (nI ln)) hx hb hW inTP hown hM ht rfl 3 (by decide) (hW _ w_37) (fun _ h => h) rfl dTP_addFour_12 ?_
  refine lv_iload_n hx hb dTP_addFour_15 rfl (lv_at hl 2 rfl) ?_
  refine lv_iload_n hx hb dTP_addFour_16 rfl (lv_at hl 0 rfl) ?_
  refine lv_ishr hx hb dTP_addFour_17 ?_
  refine lv_i2b (v := sb (bt v 24)) hx hb dTP_addFour_18 (bt_sb _ _) ?_
  refine k_bast (i := ln) (f1 := (fun j => sb ((va_up B ln (bt v 24)) j))) hx hb hM 0 hb0 rfl (by omega) (by omega) updsb_at dTP_addFour_19 (fun H locs hM => ?_)
  have hM : kS g (km_up μ ba (.inl (g.2.2.1 0, 400, .inl (fun j => sb ((va_up B ln (bt v 24)) j))))) s H locs := hM
  refine lv_aload_n hx hb dTP_addFour_20 rfl (lv_at hl 1 rfl) ?_
  refine lv_dup hx hb dTP_addFour_21 rfl ?_
  refine k_get (own := RTP) (ref := RTP) (C := RTP) (T := TTP) (N := 6) (ci := 1) (v := .int (nI ln)) hx hb hW inTP hown hM ((km_n (km_apB ht hb0)).trans ht) rfl 3 (by decide) (hW _ w_37) (fun _ h => h) rfl dTP_addFour_22 ?_
  refine lv_iconst (v := nI 1) hx hb dTP_addFour_25 (by decide) ?_
  refine lv_iadd hx hb dTP_addFour_26 ?_
  refine topi_eq (y := nI (ln + 1)) (nI_add ln 1) ?_
  refine k_put (own := RTP) (ref := RTP) (C := RTP) (T := TTP) (N := 6) (ci := 1) (v := .int (nI (ln + 1))) (ty := .int) (fs' := [.ref ba, .ref sa, .ref oa, .int (nI (ln + 1)), .int (nI ai), .int (nI zi)]) hx hb hW inTP tyTP tyokTP nmokTP hown hM ((km_n (km_apB ht hb0)).trans ht) rfl 3 (by decide) (hW _ w_37) (fun _ h => h) rfl (by decide +kernel) rfl rfl (Nat.le_of_ble_eq_true rfl) dTP_addFour_27 rfl (fun H locs hM => ?_)
  have hM : kS g (km_up (km_up μ ba (.inl (g.2.2.1 0, 400, .inl (fun j => sb ((va_up B ln (bt v 24)) j))))) ta (.inr (1, [.ref ba, .ref sa, .ref oa, .int (nI (ln + 1)), .int (nI ai), .int (nI zi)]))) s H locs := hM
  refine lv_iinc (v := nI 16) (lv' := [(2, .int (nI 16)), (0, .ref ta), (1, .int v)]) (k := 0) hx hb dTP_addFour_30 hl rfl (by decide) (by decide) rfl (fun ls hl => ?_)
  refine lv_goto (tgt := 3) hx hb dTP_addFour_33 (by decide) ?_
  refine lv_iload_n hx hb dTP_addFour_3 rfl (lv_at hl 0 rfl) ?_
  refine lv_if_lt (tgt := 36) hx hb dTP_addFour_4 (by decide) (fun h => absurd h (by decide)) (fun _ => ?_)
  refine lv_aload_n hx hb dTP_addFour_7 rfl (lv_at hl 1 rfl) ?_
  refine k_get (own := RTP) (ref := RTP) (C := RTP) (T := TTP) (N := 6) (ci := 1) (v := .ref ba) hx hb hW inTP hown hM (km_s _ _ _) rfl 0 (by decide) (hW _ w_34) (fun _ h => h) rfl dTP_addFour_8 ?_
  refine lv_aload_n hx hb dTP_addFour_11 rfl (lv_at hl 1 rfl) ?_
  refine k_get (own := RTP) (ref := RTP) (C := RTP) (T := TTP) (N := 6) (ci := 1) (v := .int (nI (ln + 1))) hx hb hW inTP hown hM (km_s _ _ _) rfl 3 (by decide) (hW _ w_37) (fun _ h => h) rfl dTP_addFour_12 ?_
  refine lv_iload_n hx hb dTP_addFour_15 rfl (lv_at hl 2 rfl) ?_
  refine lv_iload_n hx hb dTP_addFour_16 rfl (lv_at hl 0 rfl) ?_
  refine lv_ishr hx hb dTP_addFour_17 ?_
  refine lv_i2b (v := sb (bt v 16)) hx hb dTP_addFour_18 (bt_sb _ _) ?_
  refine k_bast (i := ln + 1) (f1 := (fun j => sb ((va_up (va_up B ln (bt v 24)) (ln + 1) (bt v 16)) j))) hx hb hM 0 ((km_n (km_apA hb0 ht)).trans (km_s _ _ _)) rfl (by omega) (by omega) updsb_at dTP_addFour_19 (fun H locs hM => ?_)
  have hM : kS g (km_up (km_up μ ba (.inl (g.2.2.1 0, 400, .inl (fun j => sb ((va_up (va_up B ln (bt v 24)) (ln + 1) (bt v 16)) j))))) ta (.inr (1, [.ref ba, .ref sa, .ref oa, .int (nI (ln + 1)), .int (nI ai), .int (nI zi)]))) s H locs := kS_eq (km_u2 _ _ _ _ (km_apA hb0 ht)) hM
  refine lv_aload_n hx hb dTP_addFour_20 rfl (lv_at hl 1 rfl) ?_
  refine lv_dup hx hb dTP_addFour_21 rfl ?_
  refine k_get (own := RTP) (ref := RTP) (C := RTP) (T := TTP) (N := 6) (ci := 1) (v := .int (nI (ln + 1))) hx hb hW inTP hown hM (km_s _ _ _) rfl 3 (by decide) (hW _ w_37) (fun _ h => h) rfl dTP_addFour_22 ?_
  refine lv_iconst (v := nI 1) hx hb dTP_addFour_25 (by decide) ?_
  refine lv_iadd hx hb dTP_addFour_26 ?_
  refine topi_eq (y := nI (ln + 2)) (nI_add (ln + 1) 1) ?_
  refine k_put (own := RTP) (ref := RTP) (C := RTP) (T := TTP) (N := 6) (ci := 1) (v := .int (nI (ln + 2))) (ty := .int) (fs' := [.ref ba, .ref sa, .ref oa, .int (nI (ln + 2)), .int (nI ai), .int (nI zi)]) hx hb hW inTP tyTP tyokTP nmokTP hown hM (km_s _ _ _) rfl 3 (by decide) (hW _ w_37) (fun _ h => h) rfl (by decide +kernel) rfl rfl (Nat.le_of_ble_eq_true rfl) dTP_addFour_27 rfl (fun H locs hM => ?_)
  have hM : kS g (km_up (km_up μ ba (.inl (g.2.2.1 0, 400, .inl (fun j => sb ((va_up (va_up B ln (bt v 24)) (ln + 1) (bt v 16)) j))))) ta (.inr (1, [.ref ba, .ref sa, .ref oa, .int (nI (ln + 2)), .int (nI ai), .int (nI zi)]))) s H locs := kS_eq (km_u1 _ _ _ _) hM
  refine lv_iinc (v := nI 8) (lv' := [(2, .int (nI 8)), (0, .ref ta), (1, .int v)]) (k := 0) hx hb dTP_addFour_30 hl rfl (by decide) (by decide) rfl (fun ls hl => ?_)
  refine lv_goto (tgt := 3) hx hb dTP_addFour_33 (by decide) ?_
  refine lv_iload_n hx hb dTP_addFour_3 rfl (lv_at hl 0 rfl) ?_
  refine lv_if_lt (tgt := 36) hx hb dTP_addFour_4 (by decide) (fun h => absurd h (by decide)) (fun _ => ?_)
  refine lv_aload_n hx hb dTP_addFour_7 rfl (lv_at hl 1 rfl) ?_
  refine k_get (own := RTP) (ref := RTP) (C := RTP) (T := TTP) (N := 6) (ci := 1) (v := .ref ba) hx hb hW inTP hown hM (km_s _ _ _) rfl 0 (by decide) (hW _ w_34) (fun _ h => h) rfl dTP_addFour_8 ?_
  refine lv_aload_n hx hb dTP_addFour_11 rfl (lv_at hl 1 rfl) ?_
  refine k_get (own := RTP) (ref := RTP) (C := RTP) (T := TTP) (N := 6) (ci := 1) (v := .int (nI (ln + 2))) hx hb hW inTP hown hM (km_s _ _ _) rfl 3 (by decide) (hW _ w_37) (fun _ h => h) rfl dTP_addFour_12 ?_
  refine lv_iload_n hx hb dTP_addFour_15 rfl (lv_at hl 2 rfl) ?_
  refine lv_iload_n hx hb dTP_addFour_16 rfl (lv_at hl 0 rfl) ?_
  refine lv_ishr hx hb dTP_addFour_17 ?_
  refine lv_i2b (v := sb (bt v 8)) hx hb dTP_addFour_18 (bt_sb _ _) ?_
  refine k_bast (i := ln + 2) (f1 := (fun j => sb ((va_up (va_up (va_up B ln (bt v 24)) (ln + 1) (bt v 16)) (ln + 2) (bt v 8)) j))) hx hb hM 0 ((km_n (km_apA hb0 ht)).trans (km_s _ _ _)) rfl (by omega) (by omega) updsb_at dTP_addFour_19 (fun H locs hM => ?_)
  have hM : kS g (km_up (km_up μ ba (.inl (g.2.2.1 0, 400, .inl (fun j => sb ((va_up (va_up (va_up B ln (bt v 24)) (ln + 1) (bt v 16)) (ln + 2) (bt v 8)) j))))) ta (.inr (1, [.ref ba, .ref sa, .ref oa, .int (nI (ln + 2)), .int (nI ai), .int (nI zi)]))) s H locs := kS_eq (km_u2 _ _ _ _ (km_apA hb0 ht)) hM
  refine lv_aload_n hx hb dTP_addFour_20 rfl (lv_at hl 1 rfl) ?_
  refine lv_dup hx hb dTP_addFour_21 rfl ?_
  refine k_get (own := RTP) (ref := RTP) (C := RTP) (T := TTP) (N := 6) (ci := 1) (v := .int (nI (ln + 2))) hx hb hW inTP hown hM (km_s _ _ _) rfl 3 (by decide) (hW _ w_37) (fun _ h => h) rfl dTP_addFour_22 ?_
  refine lv_iconst (v := nI 1) hx hb dTP_addFour_25 (by decide) ?_
  refine lv_iadd hx hb dTP_addFour_26 ?_
  refine topi_eq (y := nI (ln + 3)) (nI_add (ln + 2) 1) ?_
  refine k_put (own := RTP) (ref := RTP) (C := RTP) (T := TTP) (N := 6) (ci := 1) (v := .int (nI (ln + 3))) (ty := .int) (fs' := [.ref ba, .ref sa, .ref oa, .int (nI (ln + 3)), .int (nI ai), .int (nI zi)]) hx hb hW inTP tyTP tyokTP nmokTP hown hM (km_s _ _ _) rfl 3 (by decide) (hW _ w_37) (fun _ h => h) rfl (by decide +kernel) rfl rfl (Nat.le_of_ble_eq_true rfl) dTP_addFour_27 rfl (fun H locs hM => ?_)
  have hM : kS g (km_up (km_up μ ba (.inl (g.2.2.1 0, 400, .inl (fun j => sb ((va_up (va_up (va_up B ln (bt v 24)) (ln + 1) (bt v 16)) (ln + 2) (bt v 8)) j))))) ta (.inr (1, [.ref ba, .ref sa, .ref oa, .int (nI (ln + 3)), .int (nI ai), .int (nI zi)]))) s H locs := kS_eq (km_u1 _ _ _ _) hM
  refine lv_iinc (v := nI 0) (lv' := [(2, .int (nI 0)), (0, .ref ta), (1, .int v)]) (k := 0) hx hb dTP_addFour_30 hl rfl (by decide) (by decide) rfl (fun ls hl => ?_)
  refine lv_goto (tgt := 3) hx hb dTP_addFour_33 (by decide) ?_
  refine lv_iload_n hx hb dTP_addFour_3 rfl (lv_at hl 0 rfl) ?_
  refine lv_if_lt (tgt := 36) hx hb dTP_addFour_4 (by decide) (fun h => absurd h (by decide)) (fun _ => ?_)
  refine lv_aload_n hx hb dTP_addFour_7 rfl (lv_at hl 1 rfl) ?_
  refine k_get (own := RTP) (ref := RTP) (C := RTP) (T := TTP) (N := 6) (ci := 1) (v := .ref ba) hx hb hW inTP hown hM (km_s _ _ _) rfl 0 (by decide) (hW _ w_34) (fun _ h => h) rfl dTP_addFour_8 ?_
  refine lv_aload_n hx hb dTP_addFour_11 rfl (lv_at hl 1 rfl) ?_
  refine k_get (own := RTP) (ref := RTP) (C := RTP) (T := TTP) (N := 6) (ci := 1) (v := .int (nI (ln + 3))) hx hb hW inTP hown hM (km_s _ _ _) rfl 3 (by decide) (hW _ w_37) (fun _ h => h) rfl dTP_addFour_12 ?_
  refine lv_iload_n hx hb dTP_addFour_15 rfl (lv_at hl 2 rfl) ?_
  refine lv_iload_n hx hb dTP_addFour_16 rfl (lv_at hl 0 rfl) ?_
  refine lv_ishr hx hb dTP_addFour_17 ?_
  refine lv_i2b (v := sb (bt v 0)) hx hb dTP_addFour_18 (bt_sb _ _) ?_
  refine k_bast (i := ln + 3) (f1 := (fun j => sb ((va_up (va_up (va_up (va_up B ln (bt v 24)) (ln + 1) (bt v 16)) (ln + 2) (bt v 8)) (ln + 3) (bt v 0)) j))) hx hb hM 0 ((km_n (km_apA hb0 ht)).trans (km_s _ _ _)) rfl (by omega) (by omega) updsb_at dTP_addFour_19 (fun H locs hM => ?_)
  have hM : kS g (km_up (km_up μ ba (.inl (g.2.2.1 0, 400, .inl (fun j => sb ((va_up (va_up (va_up (va_up B ln (bt v 24)) (ln + 1) (bt v 16)) (ln + 2) (bt v 8)) (ln + 3) (bt v 0)) j))))) ta (.inr (1, [.ref ba, .ref sa, .ref oa, .int (nI (ln + 3)), .int (nI ai), .int (nI zi)]))) s H locs := kS_eq (km_u2 _ _ _ _ (km_apA hb0 ht)) hM
  refine lv_aload_n hx hb dTP_addFour_20 rfl (lv_at hl 1 rfl) ?_
  refine lv_dup hx hb dTP_addFour_21 rfl ?_
  refine k_get (own := RTP) (ref := RTP) (C := RTP) (T := TTP) (N := 6) (ci := 1) (v := .int (nI (ln + 3))) hx hb hW inTP hown hM (km_s _ _ _) rfl 3 (by decide) (hW _ w_37) (fun _ h => h) rfl dTP_addFour_22 ?_
  refine lv_iconst (v := nI 1) hx hb dTP_addFour_25 (by decide) ?_
  refine lv_iadd hx hb dTP_addFour_26 ?_
  refine topi_eq (y := nI (ln + 4)) (nI_add (ln + 3) 1) ?_
  refine k_put (own := RTP) (ref := RTP) (C := RTP) (T := TTP) (N := 6) (ci := 1) (v := .int (nI (ln + 4))) (ty := .int) (fs' := [.ref ba, .ref sa, .ref oa, .int (nI (ln + 4)), .int (nI ai), .int (nI zi)]) hx hb hW inTP tyTP tyokTP nmokTP hown hM (km_s _ _ _) rfl 3 (by decide) (hW _ w_37) (fun _ h => h) rfl (by decide +kernel) rfl rfl (Nat.le_of_ble_eq_true rfl) dTP_addFour_27 rfl (fun H locs hM => ?_)
  have hM : kS g (km_up (km_up μ ba (.inl (g.2.2.1 0, 400, .inl (fun j => sb ((va_up (va_up (va_up (va_up B ln (bt v 24)) (ln + 1) (bt v 16)) (ln + 2) (bt v 8)) (ln + 3) (bt v 0)) j))))) ta (.inr (1, [.ref ba, .ref sa, .ref oa, .int (nI (ln + 4)), .int (nI ai), .int (nI zi)]))) s H locs := kS_eq (km_u1 _ _ _ _) hM
  refine lv_iinc (v := (-8)) (lv' := [(2, .int (-8)), (0, .ref ta), (1, .int v)]) (k := 0) hx hb dTP_addFour_30 hl rfl (by decide) (by decide) rfl (fun ls hl => ?_)
  refine lv_goto (tgt := 3) hx hb dTP_addFour_33 (by decide) ?_
  refine lv_iload_n hx hb dTP_addFour_3 rfl (lv_at hl 0 rfl) ?_
  refine lv_if_lt (tgt := 36) hx hb dTP_addFour_4 (by decide) (fun _ => ?_) (fun h => absurd (by decide) h)
  exact kr_v hx hb hr hlocks hM dTP_addFour_36 rfl
set_option maxHeartbeats 800000 in
set_option maxRecDepth 100000 in
theorem mTP_enterWord (l : Launch) (g : kG) (μ : km_M) {ta ba sa oa ln ai zi : Nat} (ht : μ ta = some (.inr (1, [.ref ba, .ref sa, .ref oa, .int (nI ln), .int (nI ai), .int (nI zi)]))) {S E : Nat → Nat} (hs0 : μ sa = some (.inl (g.2.2.1 1, 200, .inl (fun j => nI (S j))))) (ho0 : μ oa = some (.inl (g.2.2.1 1, 200, .inl (fun j => nI (E j))))) {k : Nat} (hk : k < 200) : Met l yTP_enterWord (Cond.code yTP_enterWord cTP_enterWord 2 none :: Wd) ({ frames := 0, cells := 0, slots := 0, locals := 0 } : Room) (kPre g μ [.ref ta, .int (nI k)]) (kQv g (fun (μ1 : km_M) => μ1 = km_up μ ta (.inr (1, [.ref ba, .ref sa, .ref oa, .int (nI ln), .int (nI (S k)), .int (nI (E k))])))) 0 0 (kF g) := by
  refine k_met (by decide) (Nat.le_of_ble_eq_true rfl) ?_
  intro p e s m below meth c hx hb hr hlocks hml hown hnm hW ls hl H locs hM
  have hl : lv_has ls 2 [(0, .ref ta), (1, .int (nI k))] := hl
  refine lv_aload_n hx hb dTP_enterWord_0 rfl (lv_at hl 0 rfl) ?_
  refine lv_aload_n hx hb dTP_enterWord_1 rfl (lv_at hl 0 rfl) ?_
  refine k_get (own := RTP) (ref := RTP) (C := RTP) (T := TTP) (N := 6) (ci := 1) (v := .ref sa) hx hb hW inTP hown hM ht rfl 1 (by decide) (hW _ w_35) (fun _ h => h) rfl dTP_enterWord_2 ?_
  refine lv_iload_n hx hb dTP_enterWord_5 rfl (lv_at hl 1 rfl) ?_
  refine k_iald (i := k) hx hb hM 1 hs0 rfl (by omega) (by omega) dTP_enterWord_6 ?_
  refine k_put (own := RTP) (ref := RTP) (C := RTP) (T := TTP) (N := 6) (ci := 1) (v := .int (nI (S k))) (ty := .int) (fs' := [.ref ba, .ref sa, .ref oa, .int (nI ln), .int (nI (S k)), .int (nI zi)]) hx hb hW inTP tyTP tyokTP nmokTP hown hM ht rfl 4 (by decide) (hW _ w_39) (fun _ h => h) rfl (by decide +kernel) rfl rfl (Nat.le_of_ble_eq_true rfl) dTP_enterWord_7 rfl (fun H locs hM => ?_)
  have hM : kS g (km_up μ ta (.inr (1, [.ref ba, .ref sa, .ref oa, .int (nI ln), .int (nI (S k)), .int (nI zi)]))) s H locs := hM
  refine lv_aload_n hx hb dTP_enterWord_10 rfl (lv_at hl 0 rfl) ?_
  refine lv_aload_n hx hb dTP_enterWord_11 rfl (lv_at hl 0 rfl) ?_
  refine k_get (own := RTP) (ref := RTP) (C := RTP) (T := TTP) (N := 6) (ci := 1) (v := .ref oa) hx hb hW inTP hown hM (km_s _ _ _) rfl 2 (by decide) (hW _ w_36) (fun _ h => h) rfl dTP_enterWord_12 ?_
  refine lv_iload_n hx hb dTP_enterWord_15 rfl (lv_at hl 1 rfl) ?_
  refine k_iald (i := k) hx hb hM 1 ((km_n (km_apA ho0 ht)).trans ho0) rfl (by omega) (by omega) dTP_enterWord_16 ?_
  refine k_put (own := RTP) (ref := RTP) (C := RTP) (T := TTP) (N := 6) (ci := 1) (v := .int (nI (E k))) (ty := .int) (fs' := [.ref ba, .ref sa, .ref oa, .int (nI ln), .int (nI (S k)), .int (nI (E k))]) hx hb hW inTP tyTP tyokTP nmokTP hown hM (km_s _ _ _) rfl 5 (by decide) (hW _ w_41) (fun _ h => h) rfl (by decide +kernel) rfl rfl (Nat.le_of_ble_eq_true rfl) dTP_enterWord_17 rfl (fun H locs hM => ?_)
  have hM : kS g (km_up μ ta (.inr (1, [.ref ba, .ref sa, .ref oa, .int (nI ln), .int (nI (S k)), .int (nI (E k))]))) s H locs := kS_eq (km_u1 _ _ _ _) hM
  exact kr_v hx hb hr hlocks hM dTP_enterWord_20 rfl
set_option maxHeartbeats 800000 in
set_option maxRecDepth 100000 in
theorem mTP_splitWords (l : Launch) (g : kG) (μ : km_M) {ta ba sa oa ln ai zi : Nat} (ht : μ ta = some (.inr (1, [.ref ba, .ref sa, .ref oa, .int (nI ln), .int (nI ai), .int (nI zi)]))) {B : Nat → Nat} (hB : ∀ k, B k < 256) (hb0 : μ ba = some (.inl (g.2.2.1 0, 400, .inl (fun j => sb (B j))))) {S E : Nat → Nat} (hs0 : μ sa = some (.inl (g.2.2.1 1, 200, .inl (fun j => nI (S j))))) (ho0 : μ oa = some (.inl (g.2.2.1 1, 200, .inl (fun j => nI (E j))))) (hso : sa ≠ oa) (hln : ln ≤ 400) : Met l yTP_splitWords (Cond.code yTP_splitWords cTP_splitWords 3 (some .int) :: Wd) ({ frames := 0, cells := 0, slots := 0, locals := 0 } : Room) (kPre g μ [.ref ta]) (kQi g (fun (r : Int32) (μ1 : km_M) => r = nI (spl B S E ln).1 ∧ μ1 = km_up (km_up μ sa (.inl (g.2.2.1 1, 200, .inl (fun j => nI (((spl B S E ln).2.1) j))))) oa (.inl (g.2.2.1 1, 200, .inl (fun j => nI (((spl B S E ln).2.2) j)))))) 0 0 (kF g) := by
  refine k_met (by decide) (Nat.le_of_ble_eq_true rfl) ?_
  intro p e s m below meth c hx hb hr hlocks hml hown hnm hW ls hl H locs hM
  have hl : lv_has ls 3 [(0, .ref ta)] := hl
  have cut4 : ∀ (n : Nat), ∀ (i : Nat) (w : Nat) (S1 : Nat → Nat) (E1 : Nat → Nat), ln - i < n → i ≤ ln → spl B S E i = (w, S1, E1) → ∀ (ls : Array Slot) (H : Heap) (locs : List Loc), lv_has ls 3 [(0, .ref ta), (1, .int (nI w)), (2, .int (nI i))] → kS g (km_up (km_up μ sa (.inl (g.2.2.1 1, 200, .inl (fun j => nI (S1 j))))) oa (.inl (g.2.2.1 1, 200, .inl (fun j => nI (E1 j))))) s H locs → W p l e ({ frames := 0, cells := 0, slots := 0, locals := 0 } : Room) s m [.ref ta].toArray below meth c H locs 0 0 (MQ below (kQi g (fun (r : Int32) (μ1 : km_M) => r = nI (spl B S E ln).1 ∧ μ1 = km_up (km_up μ sa (.inl (g.2.2.1 1, 200, .inl (fun j => nI (((spl B S E ln).2.1) j))))) oa (.inl (g.2.2.1 1, 200, .inl (fun j => nI (((spl B S E ln).2.2) j)))))) [.ref ta].toArray s 0 0 (kF g)) (F0 m 4 ls []) := by
    intro n
    induction n with
    | zero => intro i w S1 E1 hlt; exact absurd hlt (Nat.not_lt_zero _)
    | succ n ih =>
      intro i w S1 E1 hlt hi he ls H locs hl hM
      have hb3 := spl_b B S E i
      rw [he] at hb3
      simp only at hb3
      refine lv_iload_n hx hb dTP_splitWords_4 rfl (lv_at hl 2 rfl) ?_
      refine lv_aload_n hx hb dTP_splitWords_5 rfl (lv_at hl 0 rfl) ?_
      refine k_get (own := RTP) (ref := RTP) (C := RTP) (T := TTP) (N := 6) (ci := 1) (v := .int (nI ln)) hx hb hW inTP hown hM ((km_n (km_apB ht ho0)).trans ((km_n (km_apB ht hs0)).trans ht)) rfl 3 (by decide) (hW _ w_37) (fun _ h => h) rfl dTP_splitWords_6 ?_
      refine lv_icmp_ge (tgt := 70) hx hb dTP_splitWords_9 (by decide) (fun h9 => ?_) (fun h9 => ?_)
      · have h9 := (nJ_ge_t (a := i) (b := ln) (by omega) (by omega)).mp h9
        have z : i = ln := by omega
        rw [z] at he
        refine lv_iload_n hx hb dTP_splitWords_70 rfl (lv_at hl 1 rfl) ?_
        exact kr_i hx hb hr hlocks hM dTP_splitWords_71 (⟨by rw [he], by rw [he]⟩)
      · have h9 := (nJ_ge_f (a := i) (b := ln) (by omega) (by omega)).mp h9
        refine lv_aload_n hx hb dTP_splitWords_12 rfl (lv_at hl 0 rfl) ?_
        refine k_get (own := RTP) (ref := RTP) (C := RTP) (T := TTP) (N := 6) (ci := 1) (v := .ref ba) hx hb hW inTP hown hM ((km_n (km_apB ht ho0)).trans ((km_n (km_apB ht hs0)).trans ht)) rfl 0 (by decide) (hW _ w_34) (fun _ h => h) rfl dTP_splitWords_13 ?_
        refine lv_iload_n hx hb dTP_splitWords_16 rfl (lv_at hl 2 rfl) ?_
        refine k_bald (i := i) hx hb hM 0 ((km_n (km_apN hb0 ho0 (by decide))).trans ((km_n (km_apN hb0 hs0 (by decide))).trans hb0)) rfl (by omega) (by omega) dTP_splitWords_17 ?_
        refine lv_bipush (v := nI 32) hx hb dTP_splitWords_18 (by decide) ?_
        refine lv_icmp_ne (tgt := 26) hx hb dTP_splitWords_20 (by decide) (fun h20 => ?_) (fun h20 => ?_)
        · have h20 := (sJ_ne_t (n := B i) (c := 32) (hB _) (by omega)).mp h20
          refine lv_iload_n hx hb dTP_splitWords_26 rfl (lv_at hl 2 rfl) ?_
          refine lv_if_eq (tgt := 43) hx hb dTP_splitWords_27 (by decide) (fun h27 => ?_) (fun h27 => ?_)
          · have h27 := (nJ_eq_t (a := i) (b := 0) (by omega) (by omega)).mp h27
            refine lv_aload_n hx hb dTP_splitWords_43 rfl (lv_at hl 0 rfl) ?_
            refine k_get (own := RTP) (ref := RTP) (C := RTP) (T := TTP) (N := 6) (ci := 1) (v := .ref sa) hx hb hW inTP hown hM ((km_n (km_apB ht ho0)).trans ((km_n (km_apB ht hs0)).trans ht)) rfl 1 (by decide) (hW _ w_35) (fun _ h => h) rfl dTP_splitWords_44 ?_
            refine lv_iload_n hx hb dTP_splitWords_47 rfl (lv_at hl 1 rfl) ?_
            refine lv_iload_n hx hb dTP_splitWords_48 rfl (lv_at hl 2 rfl) ?_
            refine k_iast (i := w) (f1 := (fun j => nI ((va_up S1 w i) j))) hx hb hM 1 ((km_n hso).trans (km_s _ _ _)) rfl (by omega) (by omega) updn_at dTP_splitWords_49 (fun H locs hM => ?_)
            have hM : kS g (km_up (km_up μ sa (.inl (g.2.2.1 1, 200, .inl (fun j => nI ((va_up S1 w i) j))))) oa (.inl (g.2.2.1 1, 200, .inl (fun j => nI (E1 j))))) s H locs := kS_eq (km_u2 _ _ _ _ hso) hM
            refine lv_iinc (v := nI (w + 1)) (lv' := [(1, .int (nI (w + 1))), (0, .ref ta), (2, .int (nI i))]) (k := 1) hx hb dTP_splitWords_50 hl rfl (ii1 w) (by decide) rfl (fun ls hl => ?_)
            refine lv_aload_n hx hb dTP_splitWords_53 rfl (lv_at hl 1 rfl) ?_
            refine k_get (own := RTP) (ref := RTP) (C := RTP) (T := TTP) (N := 6) (ci := 1) (v := .ref oa) hx hb hW inTP hown hM ((km_n (km_apB ht ho0)).trans ((km_n (km_apB ht hs0)).trans ht)) rfl 2 (by decide) (hW _ w_36) (fun _ h => h) rfl dTP_splitWords_54 ?_
            refine lv_iload_n hx hb dTP_splitWords_57 rfl (lv_at hl 0 rfl) ?_
            refine lv_iconst (v := nI 1) hx hb dTP_splitWords_58 (by decide) ?_
            refine lv_isub hx hb dTP_splitWords_59 ?_
            refine topi_eq (y := nI w) (pk_sub (a := w + 1) (b := 1) (by omega)) ?_
            refine lv_iload_n hx hb dTP_splitWords_60 rfl (lv_at hl 2 rfl) ?_
            refine lv_iconst (v := nI 1) hx hb dTP_splitWords_61 (by decide) ?_
            refine lv_iadd hx hb dTP_splitWords_62 ?_
            refine topi_eq (y := nI (i + 1)) (nI_add i 1) ?_
            refine k_iast (i := w) (f1 := (fun j => nI ((va_up E1 w (i + 1)) j))) hx hb hM 1 (km_s _ _ _) rfl (by omega) (by omega) updn_at dTP_splitWords_63 (fun H locs hM => ?_)
            have hM : kS g (km_up (km_up μ sa (.inl (g.2.2.1 1, 200, .inl (fun j => nI ((va_up S1 w i) j))))) oa (.inl (g.2.2.1 1, 200, .inl (fun j => nI ((va_up E1 w (i + 1)) j))))) s H locs := kS_eq (km_u1 _ _ _ _) hM
            refine lv_iinc (v := nI (i + 1)) (lv' := [(2, .int (nI (i + 1))), (1, .int (nI (w + 1))), (0, .ref ta)]) (k := 2) hx hb dTP_splitWords_64 hl rfl (ii1 i) (by decide) rfl (fun ls hl => ?_)
            refine lv_goto (tgt := 4) hx hb dTP_splitWords_67 (by decide) ?_
            exact ih _ _ _ _ (by omega) (by omega) (by first | exact (spl_sp h20).trans he | exact spl_st he h20 (Or.inl h27) | exact spl_st he h20 (Or.inr h40) | exact spl_go he h20 (by omega)) ls H locs (lv_sub hl [2, 1, 0] rfl) hM
          · have h27 := (nJ_eq_f (a := i) (b := 0) (by omega) (by omega)).mp h27
            refine lv_aload_n hx hb dTP_splitWords_30 rfl (lv_at hl 0 rfl) ?_
            refine k_get (own := RTP) (ref := RTP) (C := RTP) (T := TTP) (N := 6) (ci := 1) (v := .ref ba) hx hb hW inTP hown hM ((km_n (km_apB ht ho0)).trans ((km_n (km_apB ht hs0)).trans ht)) rfl 0 (by decide) (hW _ w_34) (fun _ h => h) rfl dTP_splitWords_31 ?_
            refine lv_iload_n hx hb dTP_splitWords_34 rfl (lv_at hl 2 rfl) ?_
            refine lv_iconst (v := nI 1) hx hb dTP_splitWords_35 (by decide) ?_
            refine lv_isub hx hb dTP_splitWords_36 ?_
            refine topi_eq (y := nI (i - 1)) (pk_sub (a := i) (b := 1) (by omega)) ?_
            refine k_bald (i := i - 1) hx hb hM 0 ((km_n (km_apN hb0 ho0 (by decide))).trans ((km_n (km_apN hb0 hs0 (by decide))).trans hb0)) rfl (by omega) (by omega) dTP_splitWords_37 ?_
            refine lv_bipush (v := nI 32) hx hb dTP_splitWords_38 (by decide) ?_
            refine lv_icmp_ne (tgt := 53) hx hb dTP_splitWords_40 (by decide) (fun h40 => ?_) (fun h40 => ?_)
            · have h40 := (sJ_ne_t (n := B (i - 1)) (c := 32) (hB _) (by omega)).mp h40
              have hw1 := hb3.2.2 (by omega) h40
              refine lv_aload_n hx hb dTP_splitWords_53 rfl (lv_at hl 0 rfl) ?_
              refine k_get (own := RTP) (ref := RTP) (C := RTP) (T := TTP) (N := 6) (ci := 1) (v := .ref oa) hx hb hW inTP hown hM ((km_n (km_apB ht ho0)).trans ((km_n (km_apB ht hs0)).trans ht)) rfl 2 (by decide) (hW _ w_36) (fun _ h => h) rfl dTP_splitWords_54 ?_
              refine lv_iload_n hx hb dTP_splitWords_57 rfl (lv_at hl 1 rfl) ?_
              refine lv_iconst (v := nI 1) hx hb dTP_splitWords_58 (by decide) ?_
              refine lv_isub hx hb dTP_splitWords_59 ?_
              refine topi_eq (y := nI (w - 1)) (pk_sub (a := w) (b := 1) (by omega)) ?_
              refine lv_iload_n hx hb dTP_splitWords_60 rfl (lv_at hl 2 rfl) ?_
              refine lv_iconst (v := nI 1) hx hb dTP_splitWords_61 (by decide) ?_
              refine lv_iadd hx hb dTP_splitWords_62 ?_
              refine topi_eq (y := nI (i + 1)) (nI_add i 1) ?_
              refine k_iast (i := w - 1) (f1 := (fun j => nI ((va_up E1 (w - 1) (i + 1)) j))) hx hb hM 1 (km_s _ _ _) rfl (by omega) (by omega) updn_at dTP_splitWords_63 (fun H locs hM => ?_)
              have hM : kS g (km_up (km_up μ sa (.inl (g.2.2.1 1, 200, .inl (fun j => nI (S1 j))))) oa (.inl (g.2.2.1 1, 200, .inl (fun j => nI ((va_up E1 (w - 1) (i + 1)) j))))) s H locs := kS_eq (km_u1 _ _ _ _) hM
              refine lv_iinc (v := nI (i + 1)) (lv' := [(2, .int (nI (i + 1))), (0, .ref ta), (1, .int (nI w))]) (k := 2) hx hb dTP_splitWords_64 hl rfl (ii1 i) (by decide) rfl (fun ls hl => ?_)
              refine lv_goto (tgt := 4) hx hb dTP_splitWords_67 (by decide) ?_
              exact ih _ _ _ _ (by omega) (by omega) (by first | exact (spl_sp h20).trans he | exact spl_st he h20 (Or.inl h27) | exact spl_st he h20 (Or.inr h40) | exact spl_go he h20 (by omega)) ls H locs (lv_sub hl [1, 2, 0] rfl) hM
            · have h40 := (sJ_ne_f (n := B (i - 1)) (c := 32) (hB _) (by omega)).mp h40
              refine lv_aload_n hx hb dTP_splitWords_43 rfl (lv_at hl 0 rfl) ?_
              refine k_get (own := RTP) (ref := RTP) (C := RTP) (T := TTP) (N := 6) (ci := 1) (v := .ref sa) hx hb hW inTP hown hM ((km_n (km_apB ht ho0)).trans ((km_n (km_apB ht hs0)).trans ht)) rfl 1 (by decide) (hW _ w_35) (fun _ h => h) rfl dTP_splitWords_44 ?_
              refine lv_iload_n hx hb dTP_splitWords_47 rfl (lv_at hl 1 rfl) ?_
              refine lv_iload_n hx hb dTP_splitWords_48 rfl (lv_at hl 2 rfl) ?_
              refine k_iast (i := w) (f1 := (fun j => nI ((va_up S1 w i) j))) hx hb hM 1 ((km_n hso).trans (km_s _ _ _)) rfl (by omega) (by omega) updn_at dTP_splitWords_49 (fun H locs hM => ?_)
              have hM : kS g (km_up (km_up μ sa (.inl (g.2.2.1 1, 200, .inl (fun j => nI ((va_up S1 w i) j))))) oa (.inl (g.2.2.1 1, 200, .inl (fun j => nI (E1 j))))) s H locs := kS_eq (km_u2 _ _ _ _ hso) hM
              refine lv_iinc (v := nI (w + 1)) (lv' := [(1, .int (nI (w + 1))), (0, .ref ta), (2, .int (nI i))]) (k := 1) hx hb dTP_splitWords_50 hl rfl (ii1 w) (by decide) rfl (fun ls hl => ?_)
              refine lv_aload_n hx hb dTP_splitWords_53 rfl (lv_at hl 1 rfl) ?_
              refine k_get (own := RTP) (ref := RTP) (C := RTP) (T := TTP) (N := 6) (ci := 1) (v := .ref oa) hx hb hW inTP hown hM ((km_n (km_apB ht ho0)).trans ((km_n (km_apB ht hs0)).trans ht)) rfl 2 (by decide) (hW _ w_36) (fun _ h => h) rfl dTP_splitWords_54 ?_
              refine lv_iload_n hx hb dTP_splitWords_57 rfl (lv_at hl 0 rfl) ?_
              refine lv_iconst (v := nI 1) hx hb dTP_splitWords_58 (by decide) ?_
              refine lv_isub hx hb dTP_splitWords_59 ?_
              refine topi_eq (y := nI w) (pk_sub (a := w + 1) (b := 1) (by omega)) ?_
              refine lv_iload_n hx hb dTP_splitWords_60 rfl (lv_at hl 2 rfl) ?_
              refine lv_iconst (v := nI 1) hx hb dTP_splitWords_61 (by decide) ?_
              refine lv_iadd hx hb dTP_splitWords_62 ?_
              refine topi_eq (y := nI (i + 1)) (nI_add i 1) ?_
              refine k_iast (i := w) (f1 := (fun j => nI ((va_up E1 w (i + 1)) j))) hx hb hM 1 (km_s _ _ _) rfl (by omega) (by omega) updn_at dTP_splitWords_63 (fun H locs hM => ?_)
              have hM : kS g (km_up (km_up μ sa (.inl (g.2.2.1 1, 200, .inl (fun j => nI ((va_up S1 w i) j))))) oa (.inl (g.2.2.1 1, 200, .inl (fun j => nI ((va_up E1 w (i + 1)) j))))) s H locs := kS_eq (km_u1 _ _ _ _) hM
              refine lv_iinc (v := nI (i + 1)) (lv' := [(2, .int (nI (i + 1))), (1, .int (nI (w + 1))), (0, .ref ta)]) (k := 2) hx hb dTP_splitWords_64 hl rfl (ii1 i) (by decide) rfl (fun ls hl => ?_)
              refine lv_goto (tgt := 4) hx hb dTP_splitWords_67 (by decide) ?_
              exact ih _ _ _ _ (by omega) (by omega) (by first | exact (spl_sp h20).trans he | exact spl_st he h20 (Or.inl h27) | exact spl_st he h20 (Or.inr h40) | exact spl_go he h20 (by omega)) ls H locs (lv_sub hl [2, 1, 0] rfl) hM
        · have h20 := (sJ_ne_f (n := B i) (c := 32) (hB _) (by omega)).mp h20
          refine lv_goto (tgt := 64) hx hb dTP_splitWords_23 (by decide) ?_
          refine lv_iinc (v := nI (i + 1)) (lv' := [(2, .int (nI (i + 1))), (0, .ref ta), (1, .int (nI w))]) (k := 2) hx hb dTP_splitWords_64 hl rfl (ii1 i) (by decide) rfl (fun ls hl => ?_)
          refine lv_goto (tgt := 4) hx hb dTP_splitWords_67 (by decide) ?_
          exact ih _ _ _ _ (by omega) (by omega) (by first | exact (spl_sp h20).trans he | exact spl_st he h20 (Or.inl h27) | exact spl_st he h20 (Or.inr h40) | exact spl_go he h20 (by omega)) ls H locs (lv_sub hl [1, 2, 0] rfl) hM
  refine lv_iconst (v := nI 0) hx hb dTP_splitWords_0 (by decide) ?_
  refine lv_istore_n (lv' := [(1, .int (nI 0)), (0, .ref ta)]) hx hb dTP_splitWords_1 rfl hl (by decide) rfl (fun ls hl => ?_)
  refine lv_iconst (v := nI 0) hx hb dTP_splitWords_2 (by decide) ?_
  refine lv_istore_n (lv' := [(2, .int (nI 0)), (1, .int (nI 0)), (0, .ref ta)]) hx hb dTP_splitWords_3 rfl hl (by decide) rfl (fun ls hl => ?_)
  have hM : kS g (km_up (km_up μ sa (.inl (g.2.2.1 1, 200, .inl (fun j => nI (S j))))) oa (.inl (g.2.2.1 1, 200, .inl (fun j => nI (E j))))) s H locs := kS_eq (by rw [km_id hs0, km_id ho0]) hM
  exact cut4 _ _ _ _ _ (Nat.lt_succ_self _) (by omega) (by exact spl_0 _ _ _) ls H locs (lv_sub hl [2, 1, 0] rfl) hM
set_option maxHeartbeats 800000 in
set_option maxRecDepth 100000 in
theorem mTP_numberSince (l : Launch) (g : kG) (μ : km_M) {ta ba sa oa ln ai zi : Nat} (ht : μ ta = some (.inr (1, [.ref ba, .ref sa, .ref oa, .int (nI ln), .int (nI ai), .int (nI zi)]))) {B : Nat → Nat} (hB : ∀ k, B k < 256) (hb0 : μ ba = some (.inl (g.2.2.1 0, 400, .inl (fun j => sb (B j))))) {fr : Nat} (hfr : fr ≤ ai) (hai : ai ≤ 400) (hdig : ∀ k, fr ≤ k → k < ai → 48 ≤ B k ∧ B k ≤ 57) : Met l yTP_numberSince (Cond.code yTP_numberSince cTP_numberSince 5 (some .int) :: Wd) ({ frames := 0, cells := 0, slots := 0, locals := 0 } : Room) (kPre g μ [.ref ta, .int (nI fr)]) (kQi g (fun (r : Int32) (μ1 : km_M) => r = nR (sg B fr (ai - fr)) ∧ μ1 = μ)) 0 0 (kF g) := by
  refine k_met (by decide) (Nat.le_of_ble_eq_true rfl) ?_
  intro p e s m below meth c hx hb hr hlocks hml hown hnm hW ls hl H locs hM
  have hl : lv_has ls 5 [(0, .ref ta), (1, .int (nI fr))] := hl
  have cut41 : ∀ (n : Nat), ∀ (k : Nat), ai - (fr + k) < n → fr + k ≤ ai → 1 ≤ ai - fr → ai - fr ≤ 9 → ¬ (1 < ai - fr ∧ B fr = 48) → ∀ (ls : Array Slot) (H : Heap) (locs : List Loc), lv_has ls 5 [(0, .ref ta), (3, .int (nI (vN 0 (sg B fr k)))), (4, .int (nI (fr + k)))] → kS g (μ) s H locs → W p l e ({ frames := 0, cells := 0, slots := 0, locals := 0 } : Room) s m [.ref ta, .int (nI fr)].toArray below meth c H locs 0 0 (MQ below (kQi g (fun (r : Int32) (μ1 : km_M) => r = nR (sg B fr (ai - fr)) ∧ μ1 = μ)) [.ref ta, .int (nI fr)].toArray s 0 0 (kF g)) (F0 m 41 ls []) := by
    intro n
    induction n with
    | zero => intro k hlt; exact absurd hlt (Nat.not_lt_zero _)
    | succ n ih =>
      intro k hlt hk h1 h2 h3 ls H locs hl hM
      refine lv_iload hx hb dTP_numberSince_41 (lv_at hl 2 rfl) ?_
      refine lv_aload_n hx hb dTP_numberSince_43 rfl (lv_at hl 0 rfl) ?_
      refine k_get (own := RTP) (ref := RTP) (C := RTP) (T := TTP) (N := 6) (ci := 1) (v := .int (nI ai)) hx hb hW inTP hown hM ht rfl 4 (by decide) (hW _ w_39) (fun _ h => h) rfl dTP_numberSince_44 ?_
      refine lv_icmp_ge (tgt := 72) hx hb dTP_numberSince_47 (by decide) (fun h47 => ?_) (fun h47 => ?_)
      · have h47 := (nJ_ge_t (a := fr + k) (b := ai) (by omega) (by omega)).mp h47
        refine lv_iload_n hx hb dTP_numberSince_72 rfl (lv_at hl 1 rfl) ?_
        exact kr_i hx hb hr hlocks hM dTP_numberSince_73 (⟨by
          have z : ai - fr = k := by omega
          rw [z] at h1 h2 h3 ⊢
          exact (nR_ok h1 h2 h3).symm, rfl⟩)
      · have h47 := (nJ_ge_f (a := fr + k) (b := ai) (by omega) (by omega)).mp h47
        refine lv_iload_n hx hb dTP_numberSince_50 rfl (lv_at hl 1 rfl) ?_
        refine lv_bipush (v := nI 10) hx hb dTP_numberSince_51 (by decide) ?_
        refine lv_imul hx hb dTP_numberSince_53 ?_
        refine topi_eq (y := nI ((vN 0 (sg B fr k)) * 10)) (pk_mul (vN 0 (sg B fr k)) 10) ?_
        refine lv_aload_n hx hb dTP_numberSince_54 rfl (lv_at hl 0 rfl) ?_
        refine k_get (own := RTP) (ref := RTP) (C := RTP) (T := TTP) (N := 6) (ci := 1) (v := .ref ba) hx hb hW inTP hown hM ht rfl 0 (by decide) (hW _ w_34) (fun _ h => h) rfl dTP_numberSince_55 ?_
        refine lv_iload hx hb dTP_numberSince_58 (lv_at hl 2 rfl) ?_
        refine k_bald (i := fr + k) hx hb hM 0 hb0 rfl (by omega) (by omega) dTP_numberSince_60 ?_
        refine lv_bipush (v := nI 48) hx hb dTP_numberSince_61 (by decide) ?_
        refine lv_isub hx hb dTP_numberSince_63 ?_
        refine topi_eq (y := nI (B (fr + k) - 48)) (sb_dig (hdig (fr + k) (by omega) (by omega)).1 (hdig (fr + k) (by omega) (by omega)).2) ?_
        refine lv_iadd hx hb dTP_numberSince_64 ?_
        refine topi_eq (y := nI (vN 0 (sg B fr (k + 1)))) ((nI_add _ _).trans (by rw [sg_snoc, vN_snoc])) ?_
        refine lv_istore_n (lv' := [(3, .int (nI (vN 0 (sg B fr (k + 1))))), (0, .ref ta), (4, .int (nI (fr + k)))]) hx hb dTP_numberSince_65 rfl hl (by decide) rfl (fun ls hl => ?_)
        refine lv_iinc (v := nI (fr + k + 1)) (lv' := [(4, .int (nI (fr + k + 1))), (3, .int (nI (vN 0 (sg B fr (k + 1))))), (0, .ref ta)]) (k := 2) hx hb dTP_numberSince_66 hl rfl (ii1 (fr + k)) (by decide) rfl (fun ls hl => ?_)
        refine lv_goto (tgt := 41) hx hb dTP_numberSince_69 (by decide) ?_
        exact ih (k + 1) (by omega) (by first | assumption | omega | exact rfl) (by first | assumption | omega | exact rfl) (by first | assumption | omega | exact rfl) (by first | assumption | omega | exact rfl) ls H locs (lv_sub hl [2, 1, 0] rfl) hM
  have cut36 : 1 ≤ ai - fr → ai - fr ≤ 9 → ¬ (1 < ai - fr ∧ B fr = 48) → ∀ (ls : Array Slot) (H : Heap) (locs : List Loc), lv_has ls 5 [(0, .ref ta), (1, .int (nI fr))] → kS g (μ) s H locs → W p l e ({ frames := 0, cells := 0, slots := 0, locals := 0 } : Room) s m [.ref ta, .int (nI fr)].toArray below meth c H locs 0 0 (MQ below (kQi g (fun (r : Int32) (μ1 : km_M) => r = nR (sg B fr (ai - fr)) ∧ μ1 = μ)) [.ref ta, .int (nI fr)].toArray s 0 0 (kF g)) (F0 m 36 ls []) := by
    intro  h1 h2 h3 ls H locs hl hM
    refine lv_iconst (v := nI 0) hx hb dTP_numberSince_36 (by decide) ?_
    refine lv_istore_n (lv' := [(3, .int (nI 0)), (0, .ref ta), (1, .int (nI fr))]) hx hb dTP_numberSince_37 rfl hl (by decide) rfl (fun ls hl => ?_)
    refine lv_iload_n hx hb dTP_numberSince_38 rfl (lv_at hl 2 rfl) ?_
    refine lv_istore (lv' := [(4, .int (nI fr)), (3, .int (nI 0)), (0, .ref ta), (1, .int (nI fr))]) hx hb dTP_numberSince_39 hl (by decide) rfl (fun ls hl => ?_)
    exact cut41 _ 0 (Nat.lt_succ_self _) (by first | assumption | omega | exact rfl) (by first | assumption | omega | exact rfl) (by first | assumption | omega | exact rfl) (by first | assumption | omega | exact rfl) ls H locs (lv_sub hl [2, 1, 0] rfl) hM
  refine lv_aload_n hx hb dTP_numberSince_0 rfl (lv_at hl 0 rfl) ?_
  refine k_get (own := RTP) (ref := RTP) (C := RTP) (T := TTP) (N := 6) (ci := 1) (v := .int (nI ai)) hx hb hW inTP hown hM ht rfl 4 (by decide) (hW _ w_39) (fun _ h => h) rfl dTP_numberSince_1 ?_
  refine lv_iload_n hx hb dTP_numberSince_4 rfl (lv_at hl 1 rfl) ?_
  refine lv_isub hx hb dTP_numberSince_5 ?_
  refine topi_eq (y := nI (ai - fr)) (pk_sub (a := ai) (b := fr) (by omega)) ?_
  refine lv_istore_n (lv' := [(2, .int (nI (ai - fr))), (0, .ref ta), (1, .int (nI fr))]) hx hb dTP_numberSince_6 rfl hl (by decide) rfl (fun ls hl => ?_)
  refine lv_iload_n hx hb dTP_numberSince_7 rfl (lv_at hl 0 rfl) ?_
  refine lv_iconst (v := nI 1) hx hb dTP_numberSince_8 (by decide) ?_
  refine lv_icmp_lt (tgt := 34) hx hb dTP_numberSince_9 (by decide) (fun h9 => ?_) (fun h9 => ?_)
  · have h9 := (nJ_lt_t (a := ai - fr) (b := 1) (by omega) (by omega)).mp h9
    refine lv_iconst (v := (-1)) hx hb dTP_numberSince_34 (by decide) ?_
    exact kr_i hx hb hr hlocks hM dTP_numberSince_35 (⟨(nR_no (by omega)).symm, rfl⟩)
  · have h9 := (nJ_lt_f (a := ai - fr) (b := 1) (by omega) (by omega)).mp h9
    refine lv_iload_n hx hb dTP_numberSince_12 rfl (lv_at hl 0 rfl) ?_
    refine lv_bipush (v := nI 9) hx hb dTP_numberSince_13 (by decide) ?_
    refine lv_icmp_gt (tgt := 34) hx hb dTP_numberSince_15 (by decide) (fun h15 => ?_) (fun h15 => ?_)
    · have h15 := (nJ_gt_t (a := ai - fr) (b := 9) (by omega) (by omega)).mp h15
      refine lv_iconst (v := (-1)) hx hb dTP_numberSince_34 (by decide) ?_
      exact kr_i hx hb hr hlocks hM dTP_numberSince_35 (⟨(nR_no (by omega)).symm, rfl⟩)
    · have h15 := (nJ_gt_f (a := ai - fr) (b := 9) (by omega) (by omega)).mp h15
      refine lv_iload_n hx hb dTP_numberSince_18 rfl (lv_at hl 0 rfl) ?_
      refine lv_iconst (v := nI 1) hx hb dTP_numberSince_19 (by decide) ?_
      refine lv_icmp_le (tgt := 36) hx hb dTP_numberSince_20 (by decide) (fun h20 => ?_) (fun h20 => ?_)
      · have h20 := (nJ_le_t (a := ai - fr) (b := 1) (by omega) (by omega)).mp h20
        exact cut36   (by first | assumption | omega | exact rfl) (by first | assumption | omega | exact rfl) (by first | assumption | omega | exact rfl) ls H locs (lv_sub hl [1, 2] rfl) hM
      · have h20 := (nJ_le_f (a := ai - fr) (b := 1) (by omega) (by omega)).mp h20
        refine lv_aload_n hx hb dTP_numberSince_23 rfl (lv_at hl 1 rfl) ?_
        refine k_get (own := RTP) (ref := RTP) (C := RTP) (T := TTP) (N := 6) (ci := 1) (v := .ref ba) hx hb hW inTP hown hM ht rfl 0 (by decide) (hW _ w_34) (fun _ h => h) rfl dTP_numberSince_24 ?_
        refine lv_iload_n hx hb dTP_numberSince_27 rfl (lv_at hl 2 rfl) ?_
        refine k_bald (i := fr) hx hb hM 0 hb0 rfl (by omega) (by omega) dTP_numberSince_28 ?_
        refine lv_bipush (v := nI 48) hx hb dTP_numberSince_29 (by decide) ?_
        refine lv_icmp_ne (tgt := 36) hx hb dTP_numberSince_31 (by decide) (fun h31 => ?_) (fun h31 => ?_)
        · have h31 := (sJ_ne_t (n := B fr) (c := 48) (hB _) (by omega)).mp h31
          exact cut36   (by first | assumption | omega | exact rfl) (by first | assumption | omega | exact rfl) (by first | assumption | omega | exact rfl) ls H locs (lv_sub hl [1, 2] rfl) hM
        · have h31 := (sJ_ne_f (n := B fr) (c := 48) (hB _) (by omega)).mp h31
          refine lv_iconst (v := (-1)) hx hb dTP_numberSince_34 (by decide) ?_
          exact kr_i hx hb hr hlocks hM dTP_numberSince_35 (⟨(nR_no (by omega)).symm, rfl⟩)
set_option maxHeartbeats 800000 in
set_option maxRecDepth 100000 in
theorem mTP_readNumber (l : Launch) (g : kG) (μ : km_M) {ta ba sa oa ln ai zi : Nat} (ht : μ ta = some (.inr (1, [.ref ba, .ref sa, .ref oa, .int (nI ln), .int (nI ai), .int (nI zi)]))) {B : Nat → Nat} (hB : ∀ k, B k < 256) (hb0 : μ ba = some (.inl (g.2.2.1 0, 400, .inl (fun j => sb (B j))))) (hai : ai ≤ zi) (hzi : zi ≤ 400) : Met l yTP_readNumber (Cond.code yTP_readNumber cTP_readNumber 2 (some .int) :: Wd) ({ frames := 1, cells := 0, slots := 0, locals := 24 } : Room) (kPre g μ [.ref ta]) (kQi g (fun (r : Int32) (μ1 : km_M) => r = nR (sg B ai (nD B ai (zi - ai))) ∧ μ1 = km_up μ ta (.inr (1, [.ref ba, .ref sa, .ref oa, .int (nI ln), .int (nI (ai + nD B ai (zi - ai))), .int (nI zi)])))) 0 0 (kF g) := by
  refine k_met (by decide) (Nat.le_of_ble_eq_true rfl) ?_
  intro p e s m below meth c hx hb hr hlocks hml hown hnm hW ls hl H locs hM
  have hl : lv_has ls 2 [(0, .ref ta)] := hl
  have cut5 : ∀ (n : Nat), ∀ (k : Nat), zi - (ai + k) < n → ai + k ≤ zi → nD B ai (zi - ai) = k + nD B (ai + k) (zi - (ai + k)) → ∀ (ls : Array Slot) (H : Heap) (locs : List Loc), lv_has ls 2 [(0, .ref ta), (1, .int (nI ai))] → kS g (km_up μ ta (.inr (1, [.ref ba, .ref sa, .ref oa, .int (nI ln), .int (nI (ai + k)), .int (nI zi)]))) s H locs → W p l e ({ frames := 1, cells := 0, slots := 0, locals := 24 } : Room) s m [.ref ta].toArray below meth c H locs 0 0 (MQ below (kQi g (fun (r : Int32) (μ1 : km_M) => r = nR (sg B ai (nD B ai (zi - ai))) ∧ μ1 = km_up μ ta (.inr (1, [.ref ba, .ref sa, .ref oa, .int (nI ln), .int (nI (ai + nD B ai (zi - ai))), .int (nI zi)])))) [.ref ta].toArray s 0 0 (kF g)) (F0 m 5 ls []) := by
    intro n
    induction n with
    | zero => intro k hlt; exact absurd hlt (Nat.not_lt_zero _)
    | succ n ih =>
      intro k hlt hk hn ls H locs hl hM
      refine lv_aload_n hx hb dTP_readNumber_5 rfl (lv_at hl 0 rfl) ?_
      refine k_get (own := RTP) (ref := RTP) (C := RTP) (T := TTP) (N := 6) (ci := 1) (v := .int (nI (ai + k))) hx hb hW inTP hown hM (km_s _ _ _) rfl 4 (by decide) (hW _ w_39) (fun _ h => h) rfl dTP_readNumber_6 ?_
      refine lv_aload_n hx hb dTP_readNumber_9 rfl (lv_at hl 0 rfl) ?_
      refine k_get (own := RTP) (ref := RTP) (C := RTP) (T := TTP) (N := 6) (ci := 1) (v := .int (nI zi)) hx hb hW inTP hown hM (km_s _ _ _) rfl 5 (by decide) (hW _ w_41) (fun _ h => h) rfl dTP_readNumber_10 ?_
      refine lv_icmp_ge (tgt := 44) hx hb dTP_readNumber_13 (by decide) (fun h13 => ?_) (fun h13 => ?_)
      · have h13 := (nJ_ge_t (a := ai + k) (b := zi) (by omega) (by omega)).mp h13
        rw [nD_end h13] at hn
        refine lv_aload_n hx hb dTP_readNumber_44 rfl (lv_at hl 0 rfl) ?_
        refine lv_iload_n hx hb dTP_readNumber_45 rfl (lv_at hl 1 rfl) ?_
        refine kc_i (va_runV (C := RTP) (As := [.int (nI ai)]) (b := ta) (rest := []) (Ts := Wd) ⟨hx, hb, hml, hown, hW⟩ (mTP_numberSince l g (km_up μ ta (.inr (1, [.ref ba, .ref sa, .ref oa, .int (nI ln), .int (nI (ai + k)), .int (nI zi)]))) (km_s _ _ _) hB ((km_n (km_apA hb0 ht)).trans hb0) (fr := ai) (by omega) (by omega) (nD_digs (n := zi - ai) (by omega))) (cwV 1 hW (k_gV w_157 w_159 p_8 w_2 w_160) rfl rfl rfl (by decide +kernel) ⟨Nat.le_of_ble_eq_true rfl, Nat.le_of_ble_eq_true rfl⟩) (k_preV (q := (RTP, TTP, 6)) hM (km_s _ _ _) rfl) rfl rfl hl.1 rfl (lv_room (Nat.le_of_ble_eq_true rfl)) dTP_readNumber_46 ⟨Nat.zero_le _, Nat.zero_le _⟩) hM (fun r μ1 H locs hp hM => ?_)
        obtain ⟨rfl, hmu⟩ := hp
        rw [hmu] at hM
        exact kr_i hx hb hr hlocks hM dTP_readNumber_49 (⟨by rw [hn]; exact congrArg (fun z => nR (sg B ai z)) (by omega), by rw [hn]; rfl⟩)
      · have h13 := (nJ_ge_f (a := ai + k) (b := zi) (by omega) (by omega)).mp h13
        refine lv_aload_n hx hb dTP_readNumber_16 rfl (lv_at hl 0 rfl) ?_
        refine k_get (own := RTP) (ref := RTP) (C := RTP) (T := TTP) (N := 6) (ci := 1) (v := .ref ba) hx hb hW inTP hown hM (km_s _ _ _) rfl 0 (by decide) (hW _ w_34) (fun _ h => h) rfl dTP_readNumber_17 ?_
        refine lv_aload_n hx hb dTP_readNumber_20 rfl (lv_at hl 0 rfl) ?_
        refine k_get (own := RTP) (ref := RTP) (C := RTP) (T := TTP) (N := 6) (ci := 1) (v := .int (nI (ai + k))) hx hb hW inTP hown hM (km_s _ _ _) rfl 4 (by decide) (hW _ w_39) (fun _ h => h) rfl dTP_readNumber_21 ?_
        refine k_bald (i := ai + k) hx hb hM 0 ((km_n (km_apA hb0 ht)).trans hb0) rfl (by omega) (by omega) dTP_readNumber_24 ?_
        refine kc_i (va_runS (As := [.int (sb (B (ai + k)))]) (rest := []) (Ts := Wd) ⟨hx, hb, hml, hown, hW⟩ (mTP_isDigit l g (km_up μ ta (.inr (1, [.ref ba, .ref sa, .ref oa, .int (nI ln), .int (nI (ai + k)), .int (nI zi)]))) (x := B (ai + k)) (hB _)) (va_cwS 1 hW (k_gS w_154 w_155 w_2 w_156) rfl rfl rfl (by decide +kernel) ⟨Nat.le_of_ble_eq_true rfl, Nat.le_of_ble_eq_true rfl⟩) (k_preS hM) rfl rfl hl.1 rfl (lv_room (Nat.le_of_ble_eq_true rfl)) dTP_readNumber_25 ⟨Nat.zero_le _, Nat.zero_le _⟩) hM (fun r μ1 H locs hp hM => ?_)
        obtain ⟨rfl, hmu⟩ := hp
        rw [hmu] at hM
        refine lv_if_eq (tgt := 44) hx hb dTP_readNumber_28 (by decide) (fun h28 => ?_) (fun h28 => ?_)
        · have h28 := bD_0.mp h28
          rw [nD_stop h13 h28] at hn
          refine lv_aload_n hx hb dTP_readNumber_44 rfl (lv_at hl 0 rfl) ?_
          refine lv_iload_n hx hb dTP_readNumber_45 rfl (lv_at hl 1 rfl) ?_
          refine kc_i (va_runV (C := RTP) (As := [.int (nI ai)]) (b := ta) (rest := []) (Ts := Wd) ⟨hx, hb, hml, hown, hW⟩ (mTP_numberSince l g (km_up μ ta (.inr (1, [.ref ba, .ref sa, .ref oa, .int (nI ln), .int (nI (ai + k)), .int (nI zi)]))) (km_s _ _ _) hB ((km_n (km_apA hb0 ht)).trans hb0) (fr := ai) (by omega) (by omega) (nD_digs (n := zi - ai) (by omega))) (cwV 1 hW (k_gV w_157 w_159 p_8 w_2 w_160) rfl rfl rfl (by decide +kernel) ⟨Nat.le_of_ble_eq_true rfl, Nat.le_of_ble_eq_true rfl⟩) (k_preV (q := (RTP, TTP, 6)) hM (km_s _ _ _) rfl) rfl rfl hl.1 rfl (lv_room (Nat.le_of_ble_eq_true rfl)) dTP_readNumber_46 ⟨Nat.zero_le _, Nat.zero_le _⟩) hM (fun r μ1 H locs hp hM => ?_)
          obtain ⟨rfl, hmu⟩ := hp
          rw [hmu] at hM
          exact kr_i hx hb hr hlocks hM dTP_readNumber_49 (⟨by rw [hn]; exact congrArg (fun z => nR (sg B ai z)) (by omega), by rw [hn]; rfl⟩)
        · have h28 := bD_n.mp h28
          rw [nD_step h13 h28] at hn
          refine lv_aload_n hx hb dTP_readNumber_31 rfl (lv_at hl 0 rfl) ?_
          refine lv_dup hx hb dTP_readNumber_32 rfl ?_
          refine k_get (own := RTP) (ref := RTP) (C := RTP) (T := TTP) (N := 6) (ci := 1) (v := .int (nI (ai + k))) hx hb hW inTP hown hM (km_s _ _ _) rfl 4 (by decide) (hW _ w_39) (fun _ h => h) rfl dTP_readNumber_33 ?_
          refine lv_iconst (v := nI 1) hx hb dTP_readNumber_36 (by decide) ?_
          refine lv_iadd hx hb dTP_readNumber_37 ?_
          refine topi_eq (y := nI (ai + k + 1)) (nI_add (ai + k) 1) ?_
          refine k_put (own := RTP) (ref := RTP) (C := RTP) (T := TTP) (N := 6) (ci := 1) (v := .int (nI (ai + k + 1))) (ty := .int) (fs' := [.ref ba, .ref sa, .ref oa, .int (nI ln), .int (nI (ai + k + 1)), .int (nI zi)]) hx hb hW inTP tyTP tyokTP nmokTP hown hM (km_s _ _ _) rfl 4 (by decide) (hW _ w_39) (fun _ h => h) rfl (by decide +kernel) rfl rfl (Nat.le_of_ble_eq_true rfl) dTP_readNumber_38 rfl (fun H locs hM => ?_)
          have hM : kS g (km_up μ ta (.inr (1, [.ref ba, .ref sa, .ref oa, .int (nI ln), .int (nI (ai + k + 1)), .int (nI zi)]))) s H locs := kS_eq (km_u1 _ _ _ _) hM
          refine lv_goto (tgt := 5) hx hb dTP_readNumber_41 (by decide) ?_
          exact ih (k + 1) (by omega) (by first | assumption | omega | exact rfl) (by show nD B ai (zi - ai) = (k + 1) + nD B (ai + k + 1) (zi - (ai + k + 1)); omega) ls H locs (lv_sub hl [0, 1] rfl) hM
  refine lv_aload_n hx hb dTP_readNumber_0 rfl (lv_at hl 0 rfl) ?_
  refine k_get (own := RTP) (ref := RTP) (C := RTP) (T := TTP) (N := 6) (ci := 1) (v := .int (nI ai)) hx hb hW inTP hown hM ht rfl 4 (by decide) (hW _ w_39) (fun _ h => h) rfl dTP_readNumber_1 ?_
  refine lv_istore_n (lv' := [(1, .int (nI ai)), (0, .ref ta)]) hx hb dTP_readNumber_4 rfl hl (by decide) rfl (fun ls hl => ?_)
  have hM : kS g (km_up μ ta (.inr (1, [.ref ba, .ref sa, .ref oa, .int (nI ln), .int (nI (ai + 0)), .int (nI zi)]))) s H locs := kS_eq (km_id ht).symm hM
  exact cut5 _ 0 (Nat.lt_succ_self _) (by first | assumption | omega | exact rfl) (by exact (Nat.zero_add _).symm) ls H locs (lv_sub hl [1, 0] rfl) hM
set_option maxHeartbeats 800000 in
set_option maxRecDepth 100000 in
theorem mTP_readMark (l : Launch) (g : kG) (μ : km_M) {ta ba sa oa ln ai zi : Nat} (ht : μ ta = some (.inr (1, [.ref ba, .ref sa, .ref oa, .int (nI ln), .int (nI ai), .int (nI zi)]))) {B : Nat → Nat} (hB : ∀ k, B k < 256) (hb0 : μ ba = some (.inl (g.2.2.1 0, 400, .inl (fun j => sb (B j))))) (hai : ai ≤ zi) (hzi : zi ≤ 400) : Met l yTP_readMark (Cond.code yTP_readMark cTP_readMark 6 (some .long) :: Wd) ({ frames := 1, cells := 0, slots := 0, locals := 24 } : Room) (kPre g μ [.ref ta]) (kQl g (fun (r : Int64) (μ1 : km_M) => r = mR (sg B ai (nM B ai (zi - ai))) ∧ μ1 = km_up μ ta (.inr (1, [.ref ba, .ref sa, .ref oa, .int (nI ln), .int (nI (ai + nM B ai (zi - ai))), .int (nI zi)])))) 0 0 (kF g) := by
  refine k_met (by decide) (Nat.le_of_ble_eq_true rfl) ?_
  intro p e s m below meth c hx hb hr hlocks hml hown hnm hW ls hl H locs hM
  have hl : lv_has ls 6 [(0, .ref ta)] := hl
  have cut104 : ∀ (k : Nat), ai + k ≤ zi → nM B ai (zi - ai) = k → ∀ (ls : Array Slot) (H : Heap) (locs : List Loc), lv_has ls 6 [(0, .ref ta), (1, .int (nI ai)), (2, .long (pkI (lN 0) (sg B ai k))), (4, .int (bI (decide ((sg B ai k).all dD = true))))] → kS g (km_up μ ta (.inr (1, [.ref ba, .ref sa, .ref oa, .int (nI ln), .int (nI (ai + k)), .int (nI zi)]))) s H locs → W p l e ({ frames := 1, cells := 0, slots := 0, locals := 24 } : Room) s m [.ref ta].toArray below meth c H locs 0 0 (MQ below (kQl g (fun (r : Int64) (μ1 : km_M) => r = mR (sg B ai (nM B ai (zi - ai))) ∧ μ1 = km_up μ ta (.inr (1, [.ref ba, .ref sa, .ref oa, .int (nI ln), .int (nI (ai + nM B ai (zi - ai))), .int (nI zi)])))) [.ref ta].toArray s 0 0 (kF g)) (F0 m 104 ls []) := by
    intro k hk hn ls H locs hl hM
    refine lv_aload_n hx hb dTP_readMark_104 rfl (lv_at hl 0 rfl) ?_
    refine k_get (own := RTP) (ref := RTP) (C := RTP) (T := TTP) (N := 6) (ci := 1) (v := .int (nI (ai + k))) hx hb hW inTP hown hM (km_s _ _ _) rfl 4 (by decide) (hW _ w_39) (fun _ h => h) rfl dTP_readMark_105 ?_
    refine lv_iload_n hx hb dTP_readMark_108 rfl (lv_at hl 1 rfl) ?_
    refine lv_isub hx hb dTP_readMark_109 ?_
    refine topi_eq (y := nI k) ((pk_sub (a := ai + k) (b := ai) (by omega)).trans (congrArg nI (by omega))) ?_
    refine lv_istore (lv' := [(5, .int (nI k)), (0, .ref ta), (1, .int (nI ai)), (2, .long (pkI (lN 0) (sg B ai k))), (4, .int (bI (decide ((sg B ai k).all dD = true))))]) hx hb dTP_readMark_110 hl (by decide) rfl (fun ls hl => ?_)
    refine lv_iload hx hb dTP_readMark_112 (lv_at hl 0 rfl) ?_
    refine lv_iconst (v := nI 1) hx hb dTP_readMark_114 (by decide) ?_
    refine lv_icmp_lt (tgt := 125) hx hb dTP_readMark_115 (by decide) (fun h115 => ?_) (fun h115 => ?_)
    · have h115 := (nJ_lt_t (a := k) (b := 1) (by omega) (by omega)).mp h115
      refine lv_ldc2 (v := (-1)) hx hb hown (hW _ w_182) dTP_readMark_125 ?_
      exact kr_l hx hb hr hlocks hM dTP_readMark_128 (⟨by rw [hn]; exact (mR_no (by omega)).symm, by rw [hn]⟩)
    · have h115 := (nJ_lt_f (a := k) (b := 1) (by omega) (by omega)).mp h115
      refine lv_iload hx hb dTP_readMark_118 (lv_at hl 0 rfl) ?_
      refine lv_bipush (v := nI 8) hx hb dTP_readMark_120 (by decide) ?_
      refine lv_icmp_le (tgt := 129) hx hb dTP_readMark_122 (by decide) (fun h122 => ?_) (fun h122 => ?_)
      · have h122 := (nJ_le_t (a := k) (b := 8) (by omega) (by omega)).mp h122
        refine lv_iload hx hb dTP_readMark_129 (lv_at hl 4 rfl) ?_
        refine lv_if_eq (tgt := 143) hx hb dTP_readMark_131 (by decide) (fun h131 => ?_) (fun h131 => ?_)
        · have h131 := bD_0.mp h131
          refine lv_lload_n hx hb dTP_readMark_143 rfl (lv_at hl 3 rfl) ?_
          refine lv_bipush (v := nI 8) hx hb dTP_readMark_144 (by decide) ?_
          refine lv_bipush (v := nI 8) hx hb dTP_readMark_146 (by decide) ?_
          refine lv_iload hx hb dTP_readMark_148 (lv_at hl 0 rfl) ?_
          refine lv_isub hx hb dTP_readMark_150 ?_
          refine topi_eq (y := nI (8 - k)) (pk_sub (a := 8) (b := k) (by omega)) ?_
          refine lv_imul hx hb dTP_readMark_151 ?_
          refine topi_eq (y := nI (8 * (8 - k))) (pk_mul 8 (8 - k)) ?_
          refine lv_lshl (v := (pkI (lN 0) (sg B ai k)) <<< ((nI (8 * (8 - k))).toInt64 &&& 63)) hx hb dTP_readMark_152 rfl ?_
          exact kr_l hx hb hr hlocks hM dTP_readMark_153 (⟨by rw [hn]; first | exact (mR_txt (by omega) (by omega) h131).symm | (rw [mR_dig (by omega) (by omega) h131]; exact congrArg (fun z => (nR (sg B ai z)).toInt64) (by omega)), by rw [hn]⟩)
        · have h131 := bD_n.mp h131
          refine lv_aload_n hx hb dTP_readMark_134 rfl (lv_at hl 1 rfl) ?_
          refine lv_iload_n hx hb dTP_readMark_135 rfl (lv_at hl 2 rfl) ?_
          refine kc_i (va_runV (C := RTP) (As := [.int (nI ai)]) (b := ta) (rest := []) (Ts := Wd) ⟨hx, hb, hml, hown, hW⟩ (mTP_numberSince l g (km_up μ ta (.inr (1, [.ref ba, .ref sa, .ref oa, .int (nI ln), .int (nI (ai + k)), .int (nI zi)]))) (km_s _ _ _) hB ((km_n (km_apA hb0 ht)).trans hb0) (fr := ai) (by omega) (by omega) (all_dig h131)) (cwV 1 hW (k_gV w_157 w_159 p_8 w_2 w_160) rfl rfl rfl (by decide +kernel) ⟨Nat.le_of_ble_eq_true rfl, Nat.le_of_ble_eq_true rfl⟩) (k_preV (q := (RTP, TTP, 6)) hM (km_s _ _ _) rfl) rfl rfl hl.1 rfl (lv_room (Nat.le_of_ble_eq_true rfl)) dTP_readMark_136 ⟨Nat.zero_le _, Nat.zero_le _⟩) hM (fun r μ1 H locs hp hM => ?_)
          obtain ⟨rfl, hmu⟩ := hp
          rw [hmu] at hM
          refine lv_i2l (v := (nR (sg B ai ((ai + k) - ai))).toInt64) hx hb dTP_readMark_139 rfl ?_
          refine lv_goto (tgt := 153) hx hb dTP_readMark_140 (by decide) ?_
          exact kr_l hx hb hr hlocks hM dTP_readMark_153 (⟨by rw [hn]; first | exact (mR_txt (by omega) (by omega) h131).symm | (rw [mR_dig (by omega) (by omega) h131]; exact congrArg (fun z => (nR (sg B ai z)).toInt64) (by omega)), by rw [hn]⟩)
      · have h122 := (nJ_le_f (a := k) (b := 8) (by omega) (by omega)).mp h122
        refine lv_ldc2 (v := (-1)) hx hb hown (hW _ w_182) dTP_readMark_125 ?_
        exact kr_l hx hb hr hlocks hM dTP_readMark_128 (⟨by rw [hn]; exact (mR_no (by omega)).symm, by rw [hn]⟩)
  have cut10 : ∀ (n : Nat), ∀ (k : Nat), zi - (ai + k) < n → ai + k ≤ zi → nM B ai (zi - ai) = k + nM B (ai + k) (zi - (ai + k)) → ∀ (ls : Array Slot) (H : Heap) (locs : List Loc), lv_has ls 6 [(0, .ref ta), (1, .int (nI ai)), (2, .long (pkI (lN 0) (sg B ai k))), (4, .int (bI (decide ((sg B ai k).all dD = true))))] → kS g (km_up μ ta (.inr (1, [.ref ba, .ref sa, .ref oa, .int (nI ln), .int (nI (ai + k)), .int (nI zi)]))) s H locs → W p l e ({ frames := 1, cells := 0, slots := 0, locals := 24 } : Room) s m [.ref ta].toArray below meth c H locs 0 0 (MQ below (kQl g (fun (r : Int64) (μ1 : km_M) => r = mR (sg B ai (nM B ai (zi - ai))) ∧ μ1 = km_up μ ta (.inr (1, [.ref ba, .ref sa, .ref oa, .int (nI ln), .int (nI (ai + nM B ai (zi - ai))), .int (nI zi)])))) [.ref ta].toArray s 0 0 (kF g)) (F0 m 10 ls []) := by
    intro n
    induction n with
    | zero => intro k hlt; exact absurd hlt (Nat.not_lt_zero _)
    | succ n ih =>
      intro k hlt hk hn ls H locs hl hM
      have cut73 : ai + k < zi → dM (B (ai + k)) = true → ∀ (ls : Array Slot) (H : Heap) (locs : List Loc), lv_has ls 6 [(0, .ref ta), (1, .int (nI ai)), (2, .long (pkI (lN 0) (sg B ai k)))] → kS g (km_up μ ta (.inr (1, [.ref ba, .ref sa, .ref oa, .int (nI ln), .int (nI (ai + k)), .int (nI zi)]))) s H locs → W p l e ({ frames := 1, cells := 0, slots := 0, locals := 24 } : Room) s m [.ref ta].toArray below meth c H locs 0 0 (MQ below (kQl g (fun (r : Int64) (μ1 : km_M) => r = mR (sg B ai (nM B ai (zi - ai))) ∧ μ1 = km_up μ ta (.inr (1, [.ref ba, .ref sa, .ref oa, .int (nI ln), .int (nI (ai + nM B ai (zi - ai))), .int (nI zi)])))) [.ref ta].toArray s 0 0 (kF g)) (F0 m 73 ls [.int (bI (decide ((sg B ai (k + 1)).all dD = true)))]) := by
        intro  h18 hm1 ls H locs hl hM
        refine lv_istore (lv' := [(4, .int (bI (decide ((sg B ai (k + 1)).all dD = true)))), (0, .ref ta), (1, .int (nI ai)), (2, .long (pkI (lN 0) (sg B ai k)))]) hx hb dTP_readMark_73 hl (by decide) rfl (fun ls hl => ?_)
        refine lv_lload_n hx hb dTP_readMark_75 rfl (lv_at hl 3 rfl) ?_
        refine lv_bipush (v := nI 8) hx hb dTP_readMark_76 (by decide) ?_
        refine lv_lshl (v := (pkI (lN 0) (sg B ai k)) <<< ((nI 8).toInt64 &&& 63)) hx hb dTP_readMark_78 rfl ?_
        refine lv_aload_n hx hb dTP_readMark_79 rfl (lv_at hl 1 rfl) ?_
        refine k_get (own := RTP) (ref := RTP) (C := RTP) (T := TTP) (N := 6) (ci := 1) (v := .ref ba) hx hb hW inTP hown hM (km_s _ _ _) rfl 0 (by decide) (hW _ w_34) (fun _ h => h) rfl dTP_readMark_80 ?_
        refine lv_aload_n hx hb dTP_readMark_83 rfl (lv_at hl 1 rfl) ?_
        refine k_get (own := RTP) (ref := RTP) (C := RTP) (T := TTP) (N := 6) (ci := 1) (v := .int (nI (ai + k))) hx hb hW inTP hown hM (km_s _ _ _) rfl 4 (by decide) (hW _ w_39) (fun _ h => h) rfl dTP_readMark_84 ?_
        refine k_bald (i := ai + k) hx hb hM 0 ((km_n (km_apA hb0 ht)).trans hb0) rfl (by omega) (by omega) dTP_readMark_87 ?_
        refine lv_i2l (v := (sb (B (ai + k))).toInt64) hx hb dTP_readMark_88 rfl ?_
        refine lv_lor hx hb dTP_readMark_89 ?_
        refine topl_eq (y := pkI (lN 0) (sg B ai (k + 1))) (by rw [sg_snoc, pkI_snoc]) ?_
        refine lv_lstore_n (lv' := [(2, .long (pkI (lN 0) (sg B ai (k + 1)))), (4, .int (bI (decide ((sg B ai (k + 1)).all dD = true)))), (0, .ref ta), (1, .int (nI ai))]) hx hb dTP_readMark_90 rfl hl (by decide) rfl (fun ls hl => ?_)
        refine lv_aload_n hx hb dTP_readMark_91 rfl (lv_at hl 2 rfl) ?_
        refine lv_dup hx hb dTP_readMark_92 rfl ?_
        refine k_get (own := RTP) (ref := RTP) (C := RTP) (T := TTP) (N := 6) (ci := 1) (v := .int (nI (ai + k))) hx hb hW inTP hown hM (km_s _ _ _) rfl 4 (by decide) (hW _ w_39) (fun _ h => h) rfl dTP_readMark_93 ?_
        refine lv_iconst (v := nI 1) hx hb dTP_readMark_96 (by decide) ?_
        refine lv_iadd hx hb dTP_readMark_97 ?_
        refine topi_eq (y := nI (ai + k + 1)) (nI_add (ai + k) 1) ?_
        refine k_put (own := RTP) (ref := RTP) (C := RTP) (T := TTP) (N := 6) (ci := 1) (v := .int (nI (ai + k + 1))) (ty := .int) (fs' := [.ref ba, .ref sa, .ref oa, .int (nI ln), .int (nI (ai + k + 1)), .int (nI zi)]) hx hb hW inTP tyTP tyokTP nmokTP hown hM (km_s _ _ _) rfl 4 (by decide) (hW _ w_39) (fun _ h => h) rfl (by decide +kernel) rfl rfl (Nat.le_of_ble_eq_true rfl) dTP_readMark_98 rfl (fun H locs hM => ?_)
        have hM : kS g (km_up μ ta (.inr (1, [.ref ba, .ref sa, .ref oa, .int (nI ln), .int (nI (ai + k + 1)), .int (nI zi)]))) s H locs := kS_eq (km_u1 _ _ _ _) hM
        refine lv_goto (tgt := 10) hx hb dTP_readMark_101 (by decide) ?_
        rw [nM_step h18 hm1] at hn
        exact ih (k + 1) (by omega) (by first | assumption | omega | exact rfl) (by show nM B ai (zi - ai) = (k + 1) + nM B (ai + k + 1) (zi - (ai + k + 1)); omega) ls H locs (lv_sub hl [2, 3, 0, 1] rfl) hM
      have cut58 : ai + k < zi → dM (B (ai + k)) = true → ∀ (ls : Array Slot) (H : Heap) (locs : List Loc), lv_has ls 6 [(0, .ref ta), (1, .int (nI ai)), (2, .long (pkI (lN 0) (sg B ai k))), (4, .int (bI (decide ((sg B ai k).all dD = true)))), (5, .int (bI (decide (48 ≤ B (ai + k) ∧ B (ai + k) ≤ 57))))] → kS g (km_up μ ta (.inr (1, [.ref ba, .ref sa, .ref oa, .int (nI ln), .int (nI (ai + k)), .int (nI zi)]))) s H locs → W p l e ({ frames := 1, cells := 0, slots := 0, locals := 24 } : Room) s m [.ref ta].toArray below meth c H locs 0 0 (MQ below (kQl g (fun (r : Int64) (μ1 : km_M) => r = mR (sg B ai (nM B ai (zi - ai))) ∧ μ1 = km_up μ ta (.inr (1, [.ref ba, .ref sa, .ref oa, .int (nI ln), .int (nI (ai + nM B ai (zi - ai))), .int (nI zi)])))) [.ref ta].toArray s 0 0 (kF g)) (F0 m 58 ls []) := by
        intro  h18 hm1 ls H locs hl hM
        refine lv_iload hx hb dTP_readMark_58 (lv_at hl 3 rfl) ?_
        refine lv_if_eq (tgt := 72) hx hb dTP_readMark_60 (by decide) (fun h60 => ?_) (fun h60 => ?_)
        · have h60 := bD_0.mp h60
          refine lv_iconst (v := nI 0) hx hb dTP_readMark_72 (by decide) ?_
          refine topi_eq (y := bI (decide ((sg B ai (k + 1)).all dD = true))) (by first | exact bI_f (fun z => h60 ((all_snoc _ _ _).mp z).1) | exact bI_f (fun z => h65 ((all_snoc _ _ _).mp z).2)) ?_
          exact cut73   (by first | assumption | omega | exact rfl) (by first | assumption | omega | exact rfl) ls H locs (lv_sub hl [0, 1, 2] rfl) hM
        · have h60 := bD_n.mp h60
          refine lv_iload hx hb dTP_readMark_63 (lv_at hl 4 rfl) ?_
          refine lv_if_eq (tgt := 72) hx hb dTP_readMark_65 (by decide) (fun h65 => ?_) (fun h65 => ?_)
          · have h65 := bD_0.mp h65
            refine lv_iconst (v := nI 0) hx hb dTP_readMark_72 (by decide) ?_
            refine topi_eq (y := bI (decide ((sg B ai (k + 1)).all dD = true))) (by first | exact bI_f (fun z => h60 ((all_snoc _ _ _).mp z).1) | exact bI_f (fun z => h65 ((all_snoc _ _ _).mp z).2)) ?_
            exact cut73   (by first | assumption | omega | exact rfl) (by first | assumption | omega | exact rfl) ls H locs (lv_sub hl [0, 1, 2] rfl) hM
          · have h65 := bD_n.mp h65
            refine lv_iconst (v := nI 1) hx hb dTP_readMark_68 (by decide) ?_
            refine lv_goto (tgt := 73) hx hb dTP_readMark_69 (by decide) ?_
            refine topi_eq (y := bI (decide ((sg B ai (k + 1)).all dD = true))) (bI_t ((all_snoc _ _ _).mpr ⟨h60, h65⟩)) ?_
            exact cut73   (by first | assumption | omega | exact rfl) (by first | assumption | omega | exact rfl) ls H locs (lv_sub hl [0, 1, 2] rfl) hM
      refine lv_aload_n hx hb dTP_readMark_10 rfl (lv_at hl 0 rfl) ?_
      refine k_get (own := RTP) (ref := RTP) (C := RTP) (T := TTP) (N := 6) (ci := 1) (v := .int (nI (ai + k))) hx hb hW inTP hown hM (km_s _ _ _) rfl 4 (by decide) (hW _ w_39) (fun _ h => h) rfl dTP_readMark_11 ?_
      refine lv_aload_n hx hb dTP_readMark_14 rfl (lv_at hl 0 rfl) ?_
      refine k_get (own := RTP) (ref := RTP) (C := RTP) (T := TTP) (N := 6) (ci := 1) (v := .int (nI zi)) hx hb hW inTP hown hM (km_s _ _ _) rfl 5 (by decide) (hW _ w_41) (fun _ h => h) rfl dTP_readMark_15 ?_
      refine lv_icmp_ge (tgt := 104) hx hb dTP_readMark_18 (by decide) (fun h18 => ?_) (fun h18 => ?_)
      · have h18 := (nJ_ge_t (a := ai + k) (b := zi) (by omega) (by omega)).mp h18
        rw [nM_end h18] at hn
        exact cut104 _  (by first | assumption | omega | exact rfl) (by omega) ls H locs (lv_sub hl [0, 1, 2, 3] rfl) hM
      · have h18 := (nJ_ge_f (a := ai + k) (b := zi) (by omega) (by omega)).mp h18
        refine lv_aload_n hx hb dTP_readMark_21 rfl (lv_at hl 0 rfl) ?_
        refine k_get (own := RTP) (ref := RTP) (C := RTP) (T := TTP) (N := 6) (ci := 1) (v := .ref ba) hx hb hW inTP hown hM (km_s _ _ _) rfl 0 (by decide) (hW _ w_34) (fun _ h => h) rfl dTP_readMark_22 ?_
        refine lv_aload_n hx hb dTP_readMark_25 rfl (lv_at hl 0 rfl) ?_
        refine k_get (own := RTP) (ref := RTP) (C := RTP) (T := TTP) (N := 6) (ci := 1) (v := .int (nI (ai + k))) hx hb hW inTP hown hM (km_s _ _ _) rfl 4 (by decide) (hW _ w_39) (fun _ h => h) rfl dTP_readMark_26 ?_
        refine k_bald (i := ai + k) hx hb hM 0 ((km_n (km_apA hb0 ht)).trans hb0) rfl (by omega) (by omega) dTP_readMark_29 ?_
        refine kc_i (va_runS (As := [.int (sb (B (ai + k)))]) (rest := []) (Ts := Wd) ⟨hx, hb, hml, hown, hW⟩ (mTP_isDigit l g (km_up μ ta (.inr (1, [.ref ba, .ref sa, .ref oa, .int (nI ln), .int (nI (ai + k)), .int (nI zi)]))) (x := B (ai + k)) (hB _)) (va_cwS 1 hW (k_gS w_154 w_155 w_2 w_156) rfl rfl rfl (by decide +kernel) ⟨Nat.le_of_ble_eq_true rfl, Nat.le_of_ble_eq_true rfl⟩) (k_preS hM) rfl rfl hl.1 rfl (lv_room (Nat.le_of_ble_eq_true rfl)) dTP_readMark_30 ⟨Nat.zero_le _, Nat.zero_le _⟩) hM (fun r μ1 H locs hp hM => ?_)
        obtain ⟨rfl, hmu⟩ := hp
        rw [hmu] at hM
        refine lv_istore (lv' := [(5, .int (bI (decide (48 ≤ B (ai + k) ∧ B (ai + k) ≤ 57)))), (0, .ref ta), (1, .int (nI ai)), (2, .long (pkI (lN 0) (sg B ai k))), (4, .int (bI (decide ((sg B ai k).all dD = true))))]) hx hb dTP_readMark_33 hl (by decide) rfl (fun ls hl => ?_)
        refine lv_iload hx hb dTP_readMark_35 (lv_at hl 0 rfl) ?_
        refine lv_if_ne (tgt := 58) hx hb dTP_readMark_37 (by decide) (fun h37 => ?_) (fun h37 => ?_)
        · have h37 := bD_n.mp h37
          exact cut58   (by first | assumption | omega | exact rfl) (by exact decide_eq_true (Or.inl h37)) ls H locs (lv_sub hl [1, 2, 3, 4, 0] rfl) hM
        · have h37 := bD_0.mp h37
          refine lv_aload_n hx hb dTP_readMark_40 rfl (lv_at hl 1 rfl) ?_
          refine k_get (own := RTP) (ref := RTP) (C := RTP) (T := TTP) (N := 6) (ci := 1) (v := .ref ba) hx hb hW inTP hown hM (km_s _ _ _) rfl 0 (by decide) (hW _ w_34) (fun _ h => h) rfl dTP_readMark_41 ?_
          refine lv_aload_n hx hb dTP_readMark_44 rfl (lv_at hl 1 rfl) ?_
          refine k_get (own := RTP) (ref := RTP) (C := RTP) (T := TTP) (N := 6) (ci := 1) (v := .int (nI (ai + k))) hx hb hW inTP hown hM (km_s _ _ _) rfl 4 (by decide) (hW _ w_39) (fun _ h => h) rfl dTP_readMark_45 ?_
          refine k_bald (i := ai + k) hx hb hM 0 ((km_n (km_apA hb0 ht)).trans hb0) rfl (by omega) (by omega) dTP_readMark_48 ?_
          refine kc_i (va_runS (As := [.int (sb (B (ai + k)))]) (rest := []) (Ts := Wd) ⟨hx, hb, hml, hown, hW⟩ (mTP_isLetterOrHyphen l g (km_up μ ta (.inr (1, [.ref ba, .ref sa, .ref oa, .int (nI ln), .int (nI (ai + k)), .int (nI zi)]))) (x := B (ai + k)) (hB _)) (va_cwS 1 hW (k_gS w_179 w_180 w_2 w_181) rfl rfl rfl (by decide +kernel) ⟨Nat.le_of_ble_eq_true rfl, Nat.le_of_ble_eq_true rfl⟩) (k_preS hM) rfl rfl hl.1 rfl (lv_room (Nat.le_of_ble_eq_true rfl)) dTP_readMark_49 ⟨Nat.zero_le _, Nat.zero_le _⟩) hM (fun r μ1 H locs hp hM => ?_)
          obtain ⟨rfl, hmu⟩ := hp
          rw [hmu] at hM
          refine lv_if_ne (tgt := 58) hx hb dTP_readMark_52 (by decide) (fun h52 => ?_) (fun h52 => ?_)
          · have h52 := bD_n.mp h52
            exact cut58   (by first | assumption | omega | exact rfl) (by exact decide_eq_true (Or.inr h52)) ls H locs (lv_sub hl [1, 2, 3, 4, 0] rfl) hM
          · have h52 := bD_0.mp h52
            refine lv_goto (tgt := 104) hx hb dTP_readMark_55 (by decide) ?_
            rw [nM_stop h18 (decide_eq_false (by omega))] at hn
            exact cut104 _  (by first | assumption | omega | exact rfl) (by omega) ls H locs (lv_sub hl [1, 2, 3, 4] rfl) hM
  refine lv_aload_n hx hb dTP_readMark_0 rfl (lv_at hl 0 rfl) ?_
  refine k_get (own := RTP) (ref := RTP) (C := RTP) (T := TTP) (N := 6) (ci := 1) (v := .int (nI ai)) hx hb hW inTP hown hM ht rfl 4 (by decide) (hW _ w_39) (fun _ h => h) rfl dTP_readMark_1 ?_
  refine lv_istore_n (lv' := [(1, .int (nI ai)), (0, .ref ta)]) hx hb dTP_readMark_4 rfl hl (by decide) rfl (fun ls hl => ?_)
  refine lv_lconst (v := lN 0) hx hb dTP_readMark_5 (by decide) ?_
  refine lv_lstore_n (lv' := [(2, .long (lN 0)), (1, .int (nI ai)), (0, .ref ta)]) hx hb dTP_readMark_6 rfl hl (by decide) rfl (fun ls hl => ?_)
  refine lv_iconst (v := nI 1) hx hb dTP_readMark_7 (by decide) ?_
  refine lv_istore (lv' := [(4, .int (nI 1)), (2, .long (lN 0)), (1, .int (nI ai)), (0, .ref ta)]) hx hb dTP_readMark_8 hl (by decide) rfl (fun ls hl => ?_)
  have hM : kS g (km_up μ ta (.inr (1, [.ref ba, .ref sa, .ref oa, .int (nI ln), .int (nI (ai + 0)), .int (nI zi)]))) s H locs := kS_eq (km_id ht).symm hM
  exact cut10 _ 0 (Nat.lt_succ_self _) (by first | assumption | omega | exact rfl) (by exact (Nat.zero_add _).symm) ls H locs (lv_sub hl [3, 2, 1, 0] rfl) hM
end
section
set_option maxHeartbeats 800000 in
set_option maxRecDepth 100000 in
theorem mVE_init (l : Launch) (g : kG) (μ : km_M) {va : Nat} (hv : μ va = some (.inr (2, [.null, .int (nI 0)]))) : Met l yVE_init (Cond.code yVE_init cVE_init 1 none :: Wd) ({ frames := 1, cells := 1, slots := 7, locals := 40 } : Room) (kPre g μ [.ref va]) (kQv g (fun (μ1 : km_M) => ∃ ra, μ ra = none ∧ μ1 = km_up (km_up μ ra (.inl (g.2.2.1 2, 7, .inr (.inl (fun _ => 0))))) va (.inr (2, [.ref ra, .int (nI 0)])))) 1 7 (kF g) := by
  refine k_met (by decide) (Nat.le_of_ble_eq_true rfl) ?_
  intro p e s m below meth c hx hb hr hlocks hml hown hnm hW ls hl H locs hM
  have hl : lv_has ls 1 [(0, .ref va)] := hl
  refine lv_aload_n hx hb dVE_init_0 rfl (lv_at hl 0 rfl) ?_
  refine W.objInit hx hb hown (hW _ w_64) (hW _ w_26) (hW _ w_27) rfl (by rw [hml]; exact hl.1) rfl dVE_init_1 (Nat.le_of_ble_eq_true rfl) (Nat.le_of_ble_eq_true rfl) ?_
  refine W.eq (g2 := F0 m 4 ls []) rfl ?_
  refine lv_aload_n hx hb dVE_init_4 rfl (lv_at hl 0 rfl) ?_
  refine lv_bipush (v := nI 7) hx hb dVE_init_5 (by decide) ?_
  refine k_newa (atype := .long) (a0 := (7, .inr (.inl (fun _ => 0)))) (N' := 7) hx hb (hW _ w_73) rfl hM 2 rfl (fun cA => rfl) (by omega) (by decide) (show 0 + 1 ≤ 1 by omega) (show 0 + 7 ≤ 7 by omega) dVE_init_7 (fun q7 H hnq7 hM => ?_)
  have ne_va_q7 : va ≠ q7 := km_apF hv hnq7
  have hM : kS g (km_up μ q7 (.inl (g.2.2.1 2, 7, .inr (.inl (fun _ => 0))))) s H locs := hM
  refine W.widen (k := 1) (n := 7) (by omega) (by omega) ?_
  refine k_putF (own := RVE) (ref := RVE) (C := RVE) (T := TVE) (N := 2) (ci := 2) (v := .ref q7) (ty := .array .long) (fs' := [.ref q7, .int (nI 0)]) hx hb hW inVE tyVE tyokVE nmokVE hown hM ((km_n ne_va_q7).trans hv) rfl 0 (by decide) (hW _ w_65) (fun _ h => h) rfl hnm rfl (by decide +kernel) rfl rfl (Nat.le_of_ble_eq_true rfl) dVE_init_9 rfl (fun H locs hM => ?_)
  have hM : kS g (km_up (km_up μ q7 (.inl (g.2.2.1 2, 7, .inr (.inl (fun _ => 0))))) va (.inr (2, [.ref q7, .int (nI 0)]))) s H locs := hM
  refine lv_aload_n hx hb dVE_init_12 rfl (lv_at hl 0 rfl) ?_
  refine lv_iconst (v := nI 0) hx hb dVE_init_13 (by decide) ?_
  refine k_put (own := RVE) (ref := RVE) (C := RVE) (T := TVE) (N := 2) (ci := 2) (v := .int (nI 0)) (ty := .int) (fs' := [.ref q7, .int (nI 0)]) hx hb hW inVE tyVE tyokVE nmokVE hown hM (km_s _ _ _) rfl 1 (by decide) (hW _ w_66) (fun _ h => h) rfl (by decide +kernel) rfl rfl (Nat.le_of_ble_eq_true rfl) dVE_init_14 rfl (fun H locs hM => ?_)
  have hM : kS g (km_up (km_up μ q7 (.inl (g.2.2.1 2, 7, .inr (.inl (fun _ => 0))))) va (.inr (2, [.ref q7, .int (nI 0)]))) s H locs := kS_eq (km_u1 _ _ _ _) hM
  exact kr_v hx hb hr hlocks hM dVE_init_17 (⟨_, hnq7, rfl⟩)
set_option maxHeartbeats 800000 in
set_option maxRecDepth 100000 in
theorem mVE_number (l : Launch) (g : kG) (μ : km_M) {va ra pb : Nat} {F : Nat → Int64} (hv : μ va = some (.inr (2, [.ref ra, .int (nI pb)]))) (hr0 : μ ra = some (.inl (g.2.2.1 2, 7, .inr (.inl F)))) {k : Nat} (hk : k < 7) : Met l yVE_number (Cond.code yVE_number cVE_number 2 (some .int) :: Wd) ({ frames := 0, cells := 0, slots := 0, locals := 0 } : Room) (kPre g μ [.ref va, .int (nI k)]) (kQi g (fun (r : Int32) (μ1 : km_M) => r = (F k).toInt32 ∧ μ1 = μ)) 0 0 (kF g) := by
  refine k_met (by decide) (Nat.le_of_ble_eq_true rfl) ?_
  intro p e s m below meth c hx hb hr hlocks hml hown hnm hW ls hl H locs hM
  have hl : lv_has ls 2 [(0, .ref va), (1, .int (nI k))] := hl
  refine lv_aload_n hx hb dVE_number_0 rfl (lv_at hl 0 rfl) ?_
  refine k_get (own := RVE) (ref := RVE) (C := RVE) (T := TVE) (N := 2) (ci := 2) (v := .ref ra) hx hb hW inVE hown hM hv rfl 0 (by decide) (hW _ w_65) (fun _ h => h) rfl dVE_number_1 ?_
  refine lv_iload_n hx hb dVE_number_4 rfl (lv_at hl 1 rfl) ?_
  refine k_lald (i := k) hx hb hM 2 hr0 rfl (by omega) (by omega) dVE_number_5 ?_
  refine lv_l2i (v := (F k).toInt32) hx hb dVE_number_6 rfl ?_
  exact kr_i hx hb hr hlocks hM dVE_number_7 (⟨by first | rfl | exact bI_t (by omega) | exact bI_f (by omega), rfl⟩)
set_option maxHeartbeats 800000 in
set_option maxRecDepth 100000 in
theorem mVE_dropPre (l : Launch) (g : kG) (μ : km_M) {va ra pb : Nat} {F : Nat → Int64} (hv : μ va = some (.inr (2, [.ref ra, .int (nI pb)]))) (hr0 : μ ra = some (.inl (g.2.2.1 2, 7, .inr (.inl F)))) : Met l yVE_dropPre (Cond.code yVE_dropPre cVE_dropPre 2 none :: Wd) ({ frames := 0, cells := 0, slots := 0, locals := 0 } : Room) (kPre g μ [.ref va]) (kQv g (fun (μ1 : km_M) => μ1 = km_up (km_up μ va (.inr (2, [.ref ra, .int (nI 0)]))) ra (.inl (g.2.2.1 2, 7, .inr (.inl (dpF F)))))) 0 0 (kF g) := by
  refine k_met (by decide) (Nat.le_of_ble_eq_true rfl) ?_
  intro p e s m below meth c hx hb hr hlocks hml hown hnm hW ls hl H locs hM
  have hl : lv_has ls 2 [(0, .ref va)] := hl
  refine lv_aload_n hx hb dVE_dropPre_0 rfl (lv_at hl 0 rfl) ?_
  refine lv_iconst (v := nI 0) hx hb dVE_dropPre_1 (by decide) ?_
  refine k_put (own := RVE) (ref := RVE) (C := RVE) (T := TVE) (N := 2) (ci := 2) (v := .int (nI 0)) (ty := .int) (fs' := [.ref ra, .int (nI 0)]) hx hb hW inVE tyVE tyokVE nmokVE hown hM hv rfl 1 (by decide) (hW _ w_66) (fun _ h => h) rfl (by decide +kernel) rfl rfl (Nat.le_of_ble_eq_true rfl) dVE_dropPre_2 rfl (fun H locs hM => ?_)
  have hM : kS g (km_up μ va (.inr (2, [.ref ra, .int (nI 0)]))) s H locs := hM
  refine lv_aload_n hx hb dVE_dropPre_5 rfl (lv_at hl 0 rfl) ?_
  refine k_get (own := RVE) (ref := RVE) (C := RVE) (T := TVE) (N := 2) (ci := 2) (v := .ref ra) hx hb hW inVE hown hM (km_s _ _ _) rfl 0 (by decide) (hW _ w_65) (fun _ h => h) rfl dVE_dropPre_6 ?_
  refine lv_iconst (v := nI 3) hx hb dVE_dropPre_9 (by decide) ?_
  refine lv_ldc2 (v := 9223372036854775807) hx hb hown (hW _ w_165) dVE_dropPre_10 ?_
  refine k_last (i := 3) (f1 := (vp_updL F 3 9223372036854775807)) hx hb hM 2 ((km_n (km_apA hr0 hv)).trans hr0) rfl (by omega) (by omega) rfl dVE_dropPre_13 (fun H locs hM => ?_)
  have hM : kS g (km_up (km_up μ va (.inr (2, [.ref ra, .int (nI 0)]))) ra (.inl (g.2.2.1 2, 7, .inr (.inl (vp_updL F 3 9223372036854775807))))) s H locs := hM
  refine lv_iconst (v := nI 1) hx hb dVE_dropPre_14 (by decide) ?_
  refine lv_istore_n (lv' := [(1, .int (nI 1)), (0, .ref va)]) hx hb dVE_dropPre_15 rfl hl (by decide) rfl (fun ls hl => ?_)
  refine lv_iload_n hx hb dVE_dropPre_16 rfl (lv_at hl 0 rfl) ?_
  refine lv_iconst (v := nI 4) hx hb dVE_dropPre_17 (by decide) ?_
  refine lv_icmp_ge (tgt := 38) hx hb dVE_dropPre_18 (by decide) (fun h => absurd h (by decide)) (fun _ => ?_)
  refine lv_aload_n hx hb dVE_dropPre_21 rfl (lv_at hl 1 rfl) ?_
  refine k_get (own := RVE) (ref := RVE) (C := RVE) (T := TVE) (N := 2) (ci := 2) (v := .ref ra) hx hb hW inVE hown hM ((km_n (km_apB hv hr0)).trans (km_s _ _ _)) rfl 0 (by decide) (hW _ w_65) (fun _ h => h) rfl dVE_dropPre_22 ?_
  refine lv_iconst (v := nI 3) hx hb dVE_dropPre_25 (by decide) ?_
  refine lv_iload_n hx hb dVE_dropPre_26 rfl (lv_at hl 0 rfl) ?_
  refine lv_iadd hx hb dVE_dropPre_27 ?_
  refine topi_eq (y := nI 4) (nI_add 3 1) ?_
  refine lv_ldc2 (v := (-1)) hx hb hown (hW _ w_166) dVE_dropPre_28 ?_
  refine k_last (i := 4) (f1 := (vp_updL (vp_updL F 3 9223372036854775807) 4 (-1))) hx hb hM 2 (km_s _ _ _) rfl (by omega) (by omega) rfl dVE_dropPre_31 (fun H locs hM => ?_)
  have hM : kS g (km_up (km_up μ va (.inr (2, [.ref ra, .int (nI 0)]))) ra (.inl (g.2.2.1 2, 7, .inr (.inl (vp_updL (vp_updL F 3 9223372036854775807) 4 (-1)))))) s H locs := kS_eq (km_u1 _ _ _ _) hM
  refine lv_iinc (v := nI 2) (lv' := [(1, .int (nI 2)), (0, .ref va)]) (k := 0) hx hb dVE_dropPre_32 hl rfl (by decide) (by decide) rfl (fun ls hl => ?_)
  refine lv_goto (tgt := 16) hx hb dVE_dropPre_35 (by decide) ?_
  refine lv_iload_n hx hb dVE_dropPre_16 rfl (lv_at hl 0 rfl) ?_
  refine lv_iconst (v := nI 4) hx hb dVE_dropPre_17 (by decide) ?_
  refine lv_icmp_ge (tgt := 38) hx hb dVE_dropPre_18 (by decide) (fun h => absurd h (by decide)) (fun _ => ?_)
  refine lv_aload_n hx hb dVE_dropPre_21 rfl (lv_at hl 1 rfl) ?_
  refine k_get (own := RVE) (ref := RVE) (C := RVE) (T := TVE) (N := 2) (ci := 2) (v := .ref ra) hx hb hW inVE hown hM ((km_n (km_apB hv hr0)).trans (km_s _ _ _)) rfl 0 (by decide) (hW _ w_65) (fun _ h => h) rfl dVE_dropPre_22 ?_
  refine lv_iconst (v := nI 3) hx hb dVE_dropPre_25 (by decide) ?_
  refine lv_iload_n hx hb dVE_dropPre_26 rfl (lv_at hl 0 rfl) ?_
  refine lv_iadd hx hb dVE_dropPre_27 ?_
  refine topi_eq (y := nI 5) (nI_add 3 2) ?_
  refine lv_ldc2 (v := (-1)) hx hb hown (hW _ w_166) dVE_dropPre_28 ?_
  refine k_last (i := 5) (f1 := (vp_updL (vp_updL (vp_updL F 3 9223372036854775807) 4 (-1)) 5 (-1))) hx hb hM 2 (km_s _ _ _) rfl (by omega) (by omega) rfl dVE_dropPre_31 (fun H locs hM => ?_)
  have hM : kS g (km_up (km_up μ va (.inr (2, [.ref ra, .int (nI 0)]))) ra (.inl (g.2.2.1 2, 7, .inr (.inl (vp_updL (vp_updL (vp_updL F 3 9223372036854775807) 4 (-1)) 5 (-1)))))) s H locs := kS_eq (km_u1 _ _ _ _) hM
  refine lv_iinc (v := nI 3) (lv' := [(1, .int (nI 3)), (0, .ref va)]) (k := 0) hx hb dVE_dropPre_32 hl rfl (by decide) (by decide) rfl (fun ls hl => ?_)
  refine lv_goto (tgt := 16) hx hb dVE_dropPre_35 (by decide) ?_
  refine lv_iload_n hx hb dVE_dropPre_16 rfl (lv_at hl 0 rfl) ?_
  refine lv_iconst (v := nI 4) hx hb dVE_dropPre_17 (by decide) ?_
  refine lv_icmp_ge (tgt := 38) hx hb dVE_dropPre_18 (by decide) (fun h => absurd h (by decide)) (fun _ => ?_)
  refine lv_aload_n hx hb dVE_dropPre_21 rfl (lv_at hl 1 rfl) ?_
  refine k_get (own := RVE) (ref := RVE) (C := RVE) (T := TVE) (N := 2) (ci := 2) (v := .ref ra) hx hb hW inVE hown hM ((km_n (km_apB hv hr0)).trans (km_s _ _ _)) rfl 0 (by decide) (hW _ w_65) (fun _ h => h) rfl dVE_dropPre_22 ?_
  refine lv_iconst (v := nI 3) hx hb dVE_dropPre_25 (by decide) ?_
  refine lv_iload_n hx hb dVE_dropPre_26 rfl (lv_at hl 0 rfl) ?_
  refine lv_iadd hx hb dVE_dropPre_27 ?_
  refine topi_eq (y := nI 6) (nI_add 3 3) ?_
  refine lv_ldc2 (v := (-1)) hx hb hown (hW _ w_166) dVE_dropPre_28 ?_
  refine k_last (i := 6) (f1 := (vp_updL (vp_updL (vp_updL (vp_updL F 3 9223372036854775807) 4 (-1)) 5 (-1)) 6 (-1))) hx hb hM 2 (km_s _ _ _) rfl (by omega) (by omega) rfl dVE_dropPre_31 (fun H locs hM => ?_)
  have hM : kS g (km_up (km_up μ va (.inr (2, [.ref ra, .int (nI 0)]))) ra (.inl (g.2.2.1 2, 7, .inr (.inl (vp_updL (vp_updL (vp_updL (vp_updL F 3 9223372036854775807) 4 (-1)) 5 (-1)) 6 (-1)))))) s H locs := kS_eq (km_u1 _ _ _ _) hM
  refine lv_iinc (v := nI 4) (lv' := [(1, .int (nI 4)), (0, .ref va)]) (k := 0) hx hb dVE_dropPre_32 hl rfl (by decide) (by decide) rfl (fun ls hl => ?_)
  refine lv_goto (tgt := 16) hx hb dVE_dropPre_35 (by decide) ?_
  refine lv_iload_n hx hb dVE_dropPre_16 rfl (lv_at hl 0 rfl) ?_
  refine lv_iconst (v := nI 4) hx hb dVE_dropPre_17 (by decide) ?_
  refine lv_icmp_ge (tgt := 38) hx hb dVE_dropPre_18 (by decide) (fun _ => ?_) (fun h => absurd (by decide) h)
  exact kr_v hx hb hr hlocks hM dVE_dropPre_38 rfl
set_option maxHeartbeats 800000 in
set_option maxRecDepth 100000 in
theorem mVE_setNumbers (l : Launch) (g : kG) (μ : km_M) {va ra pb : Nat} {F : Nat → Int64} (hv : μ va = some (.inr (2, [.ref ra, .int (nI pb)]))) (hr0 : μ ra = some (.inl (g.2.2.1 2, 7, .inr (.inl F)))) {x y z : Int64} : Met l yVE_setNumbers (Cond.code yVE_setNumbers cVE_setNumbers 7 none :: Wd) ({ frames := 1, cells := 0, slots := 0, locals := 21 } : Room) (kPre g μ [.ref va, .long x, .long y, .long z]) (kQv g (fun (μ1 : km_M) => μ1 = km_up (km_up μ ra (.inl (g.2.2.1 2, 7, .inr (.inl (dpF (vp_updL (vp_updL (vp_updL F 0 x) 1 y) 2 z)))))) va (.inr (2, [.ref ra, .int (nI 0)])))) 0 0 (kF g) := by
  refine k_met (by decide) (Nat.le_of_ble_eq_true rfl) ?_
  intro p e s m below meth c hx hb hr hlocks hml hown hnm hW ls hl H locs hM
  have hl : lv_has ls 7 [(0, .ref va), (1, .long x), (3, .long y), (5, .long z)] := hl
  refine lv_aload_n hx hb dVE_setNumbers_0 rfl (lv_at hl 0 rfl) ?_
  refine k_get (own := RVE) (ref := RVE) (C := RVE) (T := TVE) (N := 2) (ci := 2) (v := .ref ra) hx hb hW inVE hown hM hv rfl 0 (by decide) (hW _ w_65) (fun _ h => h) rfl dVE_setNumbers_1 ?_
  refine lv_iconst (v := nI 0) hx hb dVE_setNumbers_4 (by decide) ?_
  refine lv_lload_n hx hb dVE_setNumbers_5 rfl (lv_at hl 1 rfl) ?_
  refine k_last (i := 0) (f1 := (vp_updL F 0 x)) hx hb hM 2 hr0 rfl (by omega) (by omega) rfl dVE_setNumbers_6 (fun H locs hM => ?_)
  have hM : kS g (km_up μ ra (.inl (g.2.2.1 2, 7, .inr (.inl (vp_updL F 0 x))))) s H locs := hM
  refine lv_aload_n hx hb dVE_setNumbers_7 rfl (lv_at hl 0 rfl) ?_
  refine k_get (own := RVE) (ref := RVE) (C := RVE) (T := TVE) (N := 2) (ci := 2) (v := .ref ra) hx hb hW inVE hown hM ((km_n (km_apB hv hr0)).trans hv) rfl 0 (by decide) (hW _ w_65) (fun _ h => h) rfl dVE_setNumbers_8 ?_
  refine lv_iconst (v := nI 1) hx hb dVE_setNumbers_11 (by decide) ?_
  refine lv_lload_n hx hb dVE_setNumbers_12 rfl (lv_at hl 2 rfl) ?_
  refine k_last (i := 1) (f1 := (vp_updL (vp_updL F 0 x) 1 y)) hx hb hM 2 (km_s _ _ _) rfl (by omega) (by omega) rfl dVE_setNumbers_13 (fun H locs hM => ?_)
  have hM : kS g (km_up μ ra (.inl (g.2.2.1 2, 7, .inr (.inl (vp_updL (vp_updL F 0 x) 1 y))))) s H locs := kS_eq (km_u1 _ _ _ _) hM
  refine lv_aload_n hx hb dVE_setNumbers_14 rfl (lv_at hl 0 rfl) ?_
  refine k_get (own := RVE) (ref := RVE) (C := RVE) (T := TVE) (N := 2) (ci := 2) (v := .ref ra) hx hb hW inVE hown hM ((km_n (km_apB hv hr0)).trans hv) rfl 0 (by decide) (hW _ w_65) (fun _ h => h) rfl dVE_setNumbers_15 ?_
  refine lv_iconst (v := nI 2) hx hb dVE_setNumbers_18 (by decide) ?_
  refine lv_lload hx hb dVE_setNumbers_19 (lv_at hl 3 rfl) ?_
  refine k_last (i := 2) (f1 := (vp_updL (vp_updL (vp_updL F 0 x) 1 y) 2 z)) hx hb hM 2 (km_s _ _ _) rfl (by omega) (by omega) rfl dVE_setNumbers_21 (fun H locs hM => ?_)
  have hM : kS g (km_up μ ra (.inl (g.2.2.1 2, 7, .inr (.inl (vp_updL (vp_updL (vp_updL F 0 x) 1 y) 2 z))))) s H locs := kS_eq (km_u1 _ _ _ _) hM
  refine lv_aload_n hx hb dVE_setNumbers_22 rfl (lv_at hl 0 rfl) ?_
  refine kc_v (va_runV (C := RVE) (As := []) (b := va) (rest := []) (Ts := Wd) ⟨hx, hb, hml, hown, hW⟩ (mVE_dropPre l g (km_up μ ra (.inl (g.2.2.1 2, 7, .inr (.inl (vp_updL (vp_updL (vp_updL F 0 x) 1 y) 2 z))))) ((km_n (km_apB hv hr0)).trans hv) (km_s _ _ _)) (cwV 0 hW (k_gV w_161 w_163 p_9 w_3 w_164) rfl rfl rfl (by decide +kernel) ⟨Nat.le_of_ble_eq_true rfl, Nat.le_of_ble_eq_true rfl⟩) (k_preV (q := (RVE, TVE, 2)) hM ((km_n (km_apB hv hr0)).trans hv) rfl) rfl rfl hl.1 rfl (lv_room (Nat.le_of_ble_eq_true rfl)) dVE_setNumbers_23 ⟨Nat.zero_le _, Nat.zero_le _⟩) hM (fun μ1 H locs hp hM => ?_)
  rw [hp] at hM
  have hM : kS g (km_up (km_up (km_up μ ra (.inl (g.2.2.1 2, 7, .inr (.inl (vp_updL (vp_updL (vp_updL F 0 x) 1 y) 2 z))))) va (.inr (2, [.ref ra, .int (nI 0)]))) ra (.inl (g.2.2.1 2, 7, .inr (.inl (dpF (vp_updL (vp_updL (vp_updL F 0 x) 1 y) 2 z)))))) s H locs := hM
  have hM : kS g (km_up (km_up μ ra (.inl (g.2.2.1 2, 7, .inr (.inl (dpF (vp_updL (vp_updL (vp_updL F 0 x) 1 y) 2 z)))))) va (.inr (2, [.ref ra, .int (nI 0)]))) s H locs := kS_eq (km_u2 _ _ _ _ (km_apA hr0 hv)) hM
  exact kr_v hx hb hr hlocks hM dVE_setNumbers_26 rfl
set_option maxHeartbeats 800000 in
set_option maxRecDepth 100000 in
theorem mVE_orderTo (l : Launch) (g : kG) (μ : km_M) {va ra pb : Nat} {F : Nat → Int64} (hv : μ va = some (.inr (2, [.ref ra, .int (nI pb)]))) (hr0 : μ ra = some (.inl (g.2.2.1 2, 7, .inr (.inl F)))) {wa qa pc : Nat} {G : Nat → Int64} (hw : μ wa = some (.inr (2, [.ref qa, .int (nI pc)]))) (hq0 : μ qa = some (.inl (g.2.2.1 2, 7, .inr (.inl G)))) : Met l yVE_orderTo (Cond.code yVE_orderTo cVE_orderTo 3 (some .int) :: Wd) ({ frames := 0, cells := 0, slots := 0, locals := 0 } : Room) (kPre g μ [.ref va, .ref wa]) (kQi g (fun (r : Int32) (μ1 : km_M) => r = oF F G 0 7 ∧ μ1 = μ)) 0 0 (kF g) := by
  refine k_met (by decide) (Nat.le_of_ble_eq_true rfl) ?_
  intro p e s m below meth c hx hb hr hlocks hml hown hnm hW ls hl H locs hM
  have hl : lv_has ls 3 [(0, .ref va), (1, .ref wa)] := hl
  have cut2 : ∀ (n : Nat), ∀ (i : Nat) (k : Nat), k < n → i + k = 7 → oF F G 0 7 = oF F G i k → ∀ (ls : Array Slot) (H : Heap) (locs : List Loc), lv_has ls 3 [(0, .ref va), (1, .ref wa), (2, .int (nI i))] → kS g (μ) s H locs → W p l e ({ frames := 0, cells := 0, slots := 0, locals := 0 } : Room) s m [.ref va, .ref wa].toArray below meth c H locs 0 0 (MQ below (kQi g (fun (r : Int32) (μ1 : km_M) => r = oF F G 0 7 ∧ μ1 = μ)) [.ref va, .ref wa].toArray s 0 0 (kF g)) (F0 m 2 ls []) := by
    intro n
    induction n with
    | zero => intro i k hlt; exact absurd hlt (Nat.not_lt_zero _)
    | succ n ih =>
      intro i k hlt hi he ls H locs hl hM
      refine lv_iload_n hx hb dVE_orderTo_2 rfl (lv_at hl 2 rfl) ?_
      refine lv_aload_n hx hb dVE_orderTo_3 rfl (lv_at hl 0 rfl) ?_
      refine k_get (own := RVE) (ref := RVE) (C := RVE) (T := TVE) (N := 2) (ci := 2) (v := .ref ra) hx hb hW inVE hown hM hv rfl 0 (by decide) (hW _ w_65) (fun _ h => h) rfl dVE_orderTo_4 ?_
      refine k_alen hx hb hM 2 hr0 rfl dVE_orderTo_7 ?_
      refine lv_icmp_ge (tgt := 55) hx hb dVE_orderTo_8 (by decide) (fun h8 => ?_) (fun h8 => ?_)
      · have h8 := (nJ_ge_t (a := i) (b := 7) (by omega) (by omega)).mp h8
        obtain rfl : k = 0 := by omega
        refine lv_iconst (v := nI 0) hx hb dVE_orderTo_55 (by decide) ?_
        exact kr_i hx hb hr hlocks hM dVE_orderTo_56 (⟨he.symm, rfl⟩)
      · have h8 := (nJ_ge_f (a := i) (b := 7) (by omega) (by omega)).mp h8
        obtain ⟨k, rfl⟩ : ∃ q, k = q + 1 := ⟨k - 1, by omega⟩
        refine lv_aload_n hx hb dVE_orderTo_11 rfl (lv_at hl 0 rfl) ?_
        refine k_get (own := RVE) (ref := RVE) (C := RVE) (T := TVE) (N := 2) (ci := 2) (v := .ref ra) hx hb hW inVE hown hM hv rfl 0 (by decide) (hW _ w_65) (fun _ h => h) rfl dVE_orderTo_12 ?_
        refine lv_iload_n hx hb dVE_orderTo_15 rfl (lv_at hl 2 rfl) ?_
        refine k_lald (i := i) hx hb hM 2 hr0 rfl (by omega) (by omega) dVE_orderTo_16 ?_
        refine lv_aload_n hx hb dVE_orderTo_17 rfl (lv_at hl 1 rfl) ?_
        refine k_get (own := RVE) (ref := RVE) (C := RVE) (T := TVE) (N := 2) (ci := 2) (v := .ref qa) hx hb hW inVE hown hM hw rfl 0 (by decide) (hW _ w_65) (fun _ h => h) rfl dVE_orderTo_18 ?_
        refine lv_iload_n hx hb dVE_orderTo_21 rfl (lv_at hl 2 rfl) ?_
        refine k_lald (i := i) hx hb hM 2 hq0 rfl (by omega) (by omega) dVE_orderTo_22 ?_
        refine W.lcmp hx hb dVE_orderTo_23 ?_
        refine lv_if_eq (tgt := 49) hx hb dVE_orderTo_24 (by decide) (fun h24 => ?_) (fun h24 => ?_)
        · have h24 := lc_eq_t.mp h24
          refine lv_iinc (v := nI (i + 1)) (lv' := [(2, .int (nI (i + 1))), (0, .ref va), (1, .ref wa)]) (k := 2) hx hb dVE_orderTo_49 hl rfl (ii1 i) (by decide) rfl (fun ls hl => ?_)
          refine lv_goto (tgt := 2) hx hb dVE_orderTo_52 (by decide) ?_
          exact ih (i + 1) k (by omega) (by first | assumption | omega | exact rfl) (by exact he.trans (oF_eq h24)) ls H locs (lv_sub hl [1, 2, 0] rfl) hM
        · have h24 := lc_eq_f.mp h24
          refine lv_aload_n hx hb dVE_orderTo_27 rfl (lv_at hl 0 rfl) ?_
          refine k_get (own := RVE) (ref := RVE) (C := RVE) (T := TVE) (N := 2) (ci := 2) (v := .ref ra) hx hb hW inVE hown hM hv rfl 0 (by decide) (hW _ w_65) (fun _ h => h) rfl dVE_orderTo_28 ?_
          refine lv_iload_n hx hb dVE_orderTo_31 rfl (lv_at hl 2 rfl) ?_
          refine k_lald (i := i) hx hb hM 2 hr0 rfl (by omega) (by omega) dVE_orderTo_32 ?_
          refine lv_aload_n hx hb dVE_orderTo_33 rfl (lv_at hl 1 rfl) ?_
          refine k_get (own := RVE) (ref := RVE) (C := RVE) (T := TVE) (N := 2) (ci := 2) (v := .ref qa) hx hb hW inVE hown hM hw rfl 0 (by decide) (hW _ w_65) (fun _ h => h) rfl dVE_orderTo_34 ?_
          refine lv_iload_n hx hb dVE_orderTo_37 rfl (lv_at hl 2 rfl) ?_
          refine k_lald (i := i) hx hb hM 2 hq0 rfl (by omega) (by omega) dVE_orderTo_38 ?_
          refine W.lcmp hx hb dVE_orderTo_39 ?_
          refine lv_if_ge (tgt := 47) hx hb dVE_orderTo_40 (by decide) (fun h40 => ?_) (fun h40 => ?_)
          · have h40 := lc_ge_t.mp h40
            refine lv_iconst (v := nI 1) hx hb dVE_orderTo_47 (by decide) ?_
            exact kr_i hx hb hr hlocks hM dVE_orderTo_48 (⟨he.trans (oF_gt h24 h40) |>.symm, rfl⟩)
          · have h40 := lc_ge_f.mp h40
            refine lv_iconst (v := (-1)) hx hb dVE_orderTo_43 (by decide) ?_
            refine lv_goto (tgt := 48) hx hb dVE_orderTo_44 (by decide) ?_
            exact kr_i hx hb hr hlocks hM dVE_orderTo_48 (⟨he.trans (oF_lt h24 h40) |>.symm, rfl⟩)
  refine lv_iconst (v := nI 0) hx hb dVE_orderTo_0 (by decide) ?_
  refine lv_istore_n (lv' := [(2, .int (nI 0)), (0, .ref va), (1, .ref wa)]) hx hb dVE_orderTo_1 rfl hl (by decide) rfl (fun ls hl => ?_)
  exact cut2 _ 0 7 (Nat.lt_succ_self _) (by first | assumption | omega | exact rfl) (by rfl) ls H locs (lv_sub hl [1, 2, 0] rfl) hM
end
section
set_option maxHeartbeats 800000 in
set_option maxRecDepth 100000 in
theorem mVE_readPre (l : Launch) (g : kG) (μ : km_M) {va ra pb : Nat} {F : Nat → Int64} (hv : μ va = some (.inr (2, [.ref ra, .int (nI pb)]))) (hr0 : μ ra = some (.inl (g.2.2.1 2, 7, .inr (.inl F)))) {ta ba sa oa ln ai zi : Nat} (ht : μ ta = some (.inr (1, [.ref ba, .ref sa, .ref oa, .int (nI ln), .int (nI ai), .int (nI zi)]))) {B : Nat → Nat} (hB : ∀ k, B k < 256) (hb0 : μ ba = some (.inl (g.2.2.1 0, 400, .inl (fun j => sb (B j))))) (hai : ai ≤ zi) (hzi : zi ≤ 400) : Met l yVE_readPre (Cond.code yVE_readPre cVE_readPre 3 (some .boolean) :: Wd) ({ frames := 2, cells := 0, slots := 0, locals := 49 } : Room) (kPre g μ [.ref va, .ref ta]) (kQi g (fun (r : Int32) (μ1 : km_M) => ∃ (F1 : Nat → Int64) (a1 : Nat), μ1 = km_up (km_up (km_up μ va (.inr (2, [.ref ra, .int (nI (zi - ai))]))) ta (.inr (1, [.ref ba, .ref sa, .ref oa, .int (nI ln), .int (nI a1), .int (nI zi)]))) ra (.inl (g.2.2.1 2, 7, .inr (.inl F1))) ∧ ((vPre B zi 4 ai = none ∧ r = nI 0) ∨ (∃ ms, vPre B zi 4 ai = some ms ∧ r = nI 1 ∧ a1 = zi ∧ ∀ k, k < 7 → F1 k = pF F ms k)))) 0 0 (kF g) := by
  refine k_met (by decide) (Nat.le_of_ble_eq_true rfl) ?_
  intro p e s m below meth c hx hb hr hlocks hml hown hnm hW ls hl H locs hM
  have hl : lv_has ls 3 [(0, .ref va), (1, .ref ta)] := hl
  refine lv_aload_n hx hb dVE_readPre_0 rfl (lv_at hl 0 rfl) ?_
  refine lv_aload_n hx hb dVE_readPre_1 rfl (lv_at hl 1 rfl) ?_
  refine k_getN (own := RVE) (ref := RTP) (C := RTP) (T := TTP) (N := 6) (ci := 1) (v := .int (nI zi)) hx hb hW inTP hown hM ht rfl 5 (by decide) (va_Nw.use rfl (hM.2.1.2.1 _ n_42)) (fun _ h => h) rfl dVE_readPre_2 ?_
  refine lv_aload_n hx hb dVE_readPre_5 rfl (lv_at hl 1 rfl) ?_
  refine k_getN (own := RVE) (ref := RTP) (C := RTP) (T := TTP) (N := 6) (ci := 1) (v := .int (nI ai)) hx hb hW inTP hown hM ht rfl 4 (by decide) (va_Nw.use rfl (hM.2.1.2.1 _ n_40)) (fun _ h => h) rfl dVE_readPre_6 ?_
  refine lv_isub hx hb dVE_readPre_9 ?_
  refine topi_eq (y := nI (zi - ai)) (pk_sub (a := zi) (b := ai) (by omega)) ?_
  refine k_put (own := RVE) (ref := RVE) (C := RVE) (T := TVE) (N := 2) (ci := 2) (v := .int (nI (zi - ai))) (ty := .int) (fs' := [.ref ra, .int (nI (zi - ai))]) hx hb hW inVE tyVE tyokVE nmokVE hown hM hv rfl 1 (by decide) (hW _ w_66) (fun _ h => h) rfl (by decide +kernel) rfl rfl (Nat.le_of_ble_eq_true rfl) dVE_readPre_10 rfl (fun H locs hM => ?_)
  have hM : kS g (km_up μ va (.inr (2, [.ref ra, .int (nI (zi - ai))]))) s H locs := hM
  refine lv_iconst (v := nI 0) hx hb dVE_readPre_13 (by decide) ?_
  refine lv_istore_n (lv' := [(2, .int (nI 0)), (0, .ref va), (1, .ref ta)]) hx hb dVE_readPre_14 rfl hl (by decide) rfl (fun ls hl => ?_)
  refine lv_iload_n hx hb dVE_readPre_15 rfl (lv_at hl 0 rfl) ?_
  refine lv_iconst (v := nI 4) hx hb dVE_readPre_16 (by decide) ?_
  refine lv_icmp_ge (tgt := 77) hx hb dVE_readPre_17 (by decide) (fun h => absurd h (by decide)) (fun _ => ?_)
  refine lv_iload_n hx hb dVE_readPre_20 rfl (lv_at hl 0 rfl) ?_
  refine lv_if_le (tgt := 35) hx hb dVE_readPre_21 (by decide) (fun _ => ?_) (fun h => absurd (by decide) h)
  refine lv_aload_n hx hb dVE_readPre_35 rfl (lv_at hl 1 rfl) ?_
  refine k_get (own := RVE) (ref := RVE) (C := RVE) (T := TVE) (N := 2) (ci := 2) (v := .ref ra) hx hb hW inVE hown hM (km_s _ _ _) rfl 0 (by decide) (hW _ w_65) (fun _ h => h) rfl dVE_readPre_36 ?_
  refine lv_iconst (v := nI 3) hx hb dVE_readPre_39 (by decide) ?_
  refine lv_iload_n hx hb dVE_readPre_40 rfl (lv_at hl 0 rfl) ?_
  refine lv_iadd hx hb dVE_readPre_41 ?_
  refine topi_eq (y := nI 3) (nI_add 3 0) ?_
  refine lv_aload_n hx hb dVE_readPre_42 rfl (lv_at hl 2 rfl) ?_
  refine kc_l (va_runVN (C := RTP) (As := []) (b := ta) (rest := [.int (nI 3), .ref ra]) (Ts := Wd) ⟨hx, hb, hml, hown, hW⟩ (mTP_readMark l g (km_up μ va (.inr (2, [.ref ra, .int (nI (zi - ai))]))) ((km_n (km_apC ht hv (by decide))).trans ht) hB ((km_n (km_apA hb0 hv)).trans hb0) (by omega) (by omega)) ⟨(va_cnB 0 hW (k_gC w_178) rfl rfl rfl (hM.2.1.2.1 _ n_175) (hW _ w_2) (by decide +kernel) ⟨Nat.le_of_ble_eq_true rfl, Nat.le_of_ble_eq_true rfl⟩), hW _ w_177, hW _ p_12⟩ (k_preV (q := (RTP, TTP, 6)) hM ((km_n (km_apC ht hv (by decide))).trans ht) rfl) rfl rfl hl.1 rfl (lv_room (Nat.le_of_ble_eq_true rfl)) dVE_readPre_43 ⟨Nat.zero_le _, Nat.zero_le _⟩) hM (fun r μ1 H locs hp hM => ?_)
  obtain ⟨rfl, hmu⟩ := hp
  rw [hmu] at hM
  have hM : kS g (km_up (km_up μ va (.inr (2, [.ref ra, .int (nI (zi - ai))]))) ta (.inr (1, [.ref ba, .ref sa, .ref oa, .int (nI ln), .int (nI (ai + nM B ai (zi - ai))), .int (nI zi)]))) s H locs := hM
  rcases vMark_cases B (a := ai) (z := zi) (by omega) with ⟨hv1, hr1⟩ | ⟨v1, a1, hv1, hr1, hlt1, ha1, hle1, hln1⟩
  · refine topl_eq (y := (-1)) hr1 ?_
    refine k_last (i := 3) (f1 := (vp_updL F 3 (-1))) hx hb hM 2 ((km_n (km_apA hr0 ht)).trans ((km_n (km_apA hr0 hv)).trans hr0)) rfl (by omega) (by omega) rfl dVE_readPre_46 (fun H locs hM => ?_)
    have hM : kS g (km_up (km_up (km_up μ va (.inr (2, [.ref ra, .int (nI (zi - ai))]))) ta (.inr (1, [.ref ba, .ref sa, .ref oa, .int (nI ln), .int (nI (ai + nM B ai (zi - ai))), .int (nI zi)]))) ra (.inl (g.2.2.1 2, 7, .inr (.inl (vp_updL F 3 (-1)))))) s H locs := hM
    refine lv_aload_n hx hb dVE_readPre_47 rfl (lv_at hl 1 rfl) ?_
    refine k_get (own := RVE) (ref := RVE) (C := RVE) (T := TVE) (N := 2) (ci := 2) (v := .ref ra) hx hb hW inVE hown hM ((km_n (km_apB hv hr0)).trans ((km_n (km_apC hv ht (by decide))).trans (km_s _ _ _))) rfl 0 (by decide) (hW _ w_65) (fun _ h => h) rfl dVE_readPre_48 ?_
    refine lv_iconst (v := nI 3) hx hb dVE_readPre_51 (by decide) ?_
    refine lv_iload_n hx hb dVE_readPre_52 rfl (lv_at hl 0 rfl) ?_
    refine lv_iadd hx hb dVE_readPre_53 ?_
    refine topi_eq (y := nI 3) (nI_add 3 0) ?_
    refine k_lald (i := 3) hx hb hM 2 (km_s _ _ _) rfl (by omega) (by omega) dVE_readPre_54 ?_
    refine topl_eq (y := (-1)) pk_uLs ?_
    refine lv_lconst (v := lN 0) hx hb dVE_readPre_55 (by decide) ?_
    refine W.lcmp hx hb dVE_readPre_56 ?_
    refine lv_if_ge (tgt := 62) hx hb dVE_readPre_57 (by decide) (fun h => absurd h lm1_ge) (fun _ => ?_)
    refine lv_iconst (v := nI 0) hx hb dVE_readPre_60 (by decide) ?_
    exact kr_z hx hb hr (by decide) hlocks hM dVE_readPre_61 (⟨_, _, rfl, Or.inl ⟨by rw [vPre_n hv1], rfl⟩⟩)
  · refine topl_eq (y := lN (mV v1)) hr1 ?_
    rw [ha1] at hM
    refine k_last (i := 3) (f1 := (vp_updL F 3 (lN (mV v1)))) hx hb hM 2 ((km_n (km_apA hr0 ht)).trans ((km_n (km_apA hr0 hv)).trans hr0)) rfl (by omega) (by omega) rfl dVE_readPre_46 (fun H locs hM => ?_)
    have hM : kS g (km_up (km_up (km_up μ va (.inr (2, [.ref ra, .int (nI (zi - ai))]))) ta (.inr (1, [.ref ba, .ref sa, .ref oa, .int (nI ln), .int (nI a1), .int (nI zi)]))) ra (.inl (g.2.2.1 2, 7, .inr (.inl (vp_updL F 3 (lN (mV v1))))))) s H locs := hM
    refine lv_aload_n hx hb dVE_readPre_47 rfl (lv_at hl 1 rfl) ?_
    refine k_get (own := RVE) (ref := RVE) (C := RVE) (T := TVE) (N := 2) (ci := 2) (v := .ref ra) hx hb hW inVE hown hM ((km_n (km_apB hv hr0)).trans ((km_n (km_apC hv ht (by decide))).trans (km_s _ _ _))) rfl 0 (by decide) (hW _ w_65) (fun _ h => h) rfl dVE_readPre_48 ?_
    refine lv_iconst (v := nI 3) hx hb dVE_readPre_51 (by decide) ?_
    refine lv_iload_n hx hb dVE_readPre_52 rfl (lv_at hl 0 rfl) ?_
    refine lv_iadd hx hb dVE_readPre_53 ?_
    refine topi_eq (y := nI 3) (nI_add 3 0) ?_
    refine k_lald (i := 3) hx hb hM 2 (km_s _ _ _) rfl (by omega) (by omega) dVE_readPre_54 ?_
    refine topl_eq (y := lN (mV v1)) pk_uLs ?_
    refine lv_lconst (v := lN 0) hx hb dVE_readPre_55 (by decide) ?_
    refine W.lcmp hx hb dVE_readPre_56 ?_
    refine lv_if_ge (tgt := 62) hx hb dVE_readPre_57 (by decide) (fun h57 => ?_) (fun h57 => ?_)
    · have h57 := (lJ_ge_t (a := (mV v1)) (b := 0) (by omega) (by omega)).mp h57
      refine lv_aload_n hx hb dVE_readPre_62 rfl (lv_at hl 2 rfl) ?_
      refine kc_i (va_runVN (C := RTP) (As := []) (b := ta) (rest := []) (Ts := Wd) ⟨hx, hb, hml, hown, hW⟩ (mTP_isAtStop l g (km_up (km_up (km_up μ va (.inr (2, [.ref ra, .int (nI (zi - ai))]))) ta (.inr (1, [.ref ba, .ref sa, .ref oa, .int (nI ln), .int (nI a1), .int (nI zi)]))) ra (.inl (g.2.2.1 2, 7, .inr (.inl (vp_updL F 3 (lN (mV v1))))))) ((km_n (km_apB ht hr0)).trans (km_s _ _ _)) (by omega) (by omega)) ⟨(va_cnB 0 hW (k_gC w_170) rfl rfl rfl (hM.2.1.2.1 _ n_167) (hW _ w_2) (by decide +kernel) ⟨Nat.le_of_ble_eq_true rfl, Nat.le_of_ble_eq_true rfl⟩), hW _ w_169, hW _ p_10⟩ (k_preV (q := (RTP, TTP, 6)) hM ((km_n (km_apB ht hr0)).trans (km_s _ _ _)) rfl) rfl rfl hl.1 rfl (lv_room (Nat.le_of_ble_eq_true rfl)) dVE_readPre_63 ⟨Nat.zero_le _, Nat.zero_le _⟩) hM (fun r μ1 H locs hp hM => ?_)
      obtain ⟨rfl, hmu⟩ := hp
      rw [hmu] at hM
      rcases Decidable.em (a1 = zi) with hz2 | hz2
      · refine topi_eq (y := nI 1) (bI_t hz2).symm ?_
        refine lv_if_eq (tgt := 71) hx hb dVE_readPre_66 (by decide) (fun h => absurd h (by decide)) (fun _ => ?_)
        refine lv_iconst (v := nI 1) hx hb dVE_readPre_69 (by decide) ?_
        exact kr_z hx hb hr (by decide) hlocks hM dVE_readPre_70 (⟨_, _, rfl, Or.inr ⟨[v1], by rw [vPre_s hv1 hz2], rfl, hz2, pF1 F v1⟩⟩)
      · refine topi_eq (y := nI 0) (bI_f hz2).symm ?_
        refine lv_if_eq (tgt := 71) hx hb dVE_readPre_66 (by decide) (fun _ => ?_) (fun h => absurd (by decide) h)
        refine lv_iinc (v := nI 1) (lv' := [(2, .int (nI 1)), (0, .ref va), (1, .ref ta)]) (k := 0) hx hb dVE_readPre_71 hl rfl (by decide) (by decide) rfl (fun ls hl => ?_)
        refine lv_goto (tgt := 15) hx hb dVE_readPre_74 (by decide) ?_
        refine lv_iload_n hx hb dVE_readPre_15 rfl (lv_at hl 0 rfl) ?_
        refine lv_iconst (v := nI 4) hx hb dVE_readPre_16 (by decide) ?_
        refine lv_icmp_ge (tgt := 77) hx hb dVE_readPre_17 (by decide) (fun h => absurd h (by decide)) (fun _ => ?_)
        refine lv_iload_n hx hb dVE_readPre_20 rfl (lv_at hl 0 rfl) ?_
        refine lv_if_le (tgt := 35) hx hb dVE_readPre_21 (by decide) (fun h => absurd h (by decide)) (fun _ => ?_)
        refine lv_aload_n hx hb dVE_readPre_24 rfl (lv_at hl 2 rfl) ?_
        refine lv_bipush (v := nI 46) hx hb dVE_readPre_25 (by decide) ?_
        refine kc_i (va_runVN (C := RTP) (As := [.int (nI 46)]) (b := ta) (rest := []) (Ts := Wd) ⟨hx, hb, hml, hown, hW⟩ (mTP_skip l g (km_up (km_up (km_up μ va (.inr (2, [.ref ra, .int (nI (zi - ai))]))) ta (.inr (1, [.ref ba, .ref sa, .ref oa, .int (nI ln), .int (nI a1), .int (nI zi)]))) ra (.inl (g.2.2.1 2, 7, .inr (.inl (vp_updL F 3 (lN (mV v1))))))) ((km_n (km_apB ht hr0)).trans (km_s _ _ _)) hB ((km_n (km_apN hb0 hr0 (by decide))).trans ((km_n (km_apA hb0 ht)).trans ((km_n (km_apA hb0 hv)).trans hb0))) (ch := 46) (by omega) (by omega) (by omega)) ⟨(va_cnB 1 hW (k_gC w_149) rfl rfl rfl (hM.2.1.2.1 _ n_146) (hW _ w_2) (by decide +kernel) ⟨Nat.le_of_ble_eq_true rfl, Nat.le_of_ble_eq_true rfl⟩), hW _ w_148, hW _ p_6⟩ (k_preV (q := (RTP, TTP, 6)) hM ((km_n (km_apB ht hr0)).trans (km_s _ _ _)) rfl) rfl rfl hl.1 rfl (lv_room (Nat.le_of_ble_eq_true rfl)) dVE_readPre_27 ⟨Nat.zero_le _, Nat.zero_le _⟩) hM (fun r μ1 H locs hp hM => ?_)
        obtain ⟨rfl, hmu⟩ := hp
        rw [hmu] at hM
        rcases Decidable.em (a1 < zi ∧ B a1 = 46) with hs3 | hs3
        · refine topi_eq (y := nI 1) (bI_t hs3).symm ?_
          rw [if_pos hs3] at hM
          have hd3 := vDot_t hs3
          have hM : kS g (km_up (km_up (km_up μ va (.inr (2, [.ref ra, .int (nI (zi - ai))]))) ta (.inr (1, [.ref ba, .ref sa, .ref oa, .int (nI ln), .int (nI (a1 + 1)), .int (nI zi)]))) ra (.inl (g.2.2.1 2, 7, .inr (.inl (vp_updL F 3 (lN (mV v1))))))) s H locs := kS_eq (km_u2 _ _ _ _ (km_apB ht hr0)) hM
          refine lv_if_ne (tgt := 35) hx hb dVE_readPre_30 (by decide) (fun _ => ?_) (fun h => absurd h (by decide))
          refine lv_aload_n hx hb dVE_readPre_35 rfl (lv_at hl 1 rfl) ?_
          refine k_get (own := RVE) (ref := RVE) (C := RVE) (T := TVE) (N := 2) (ci := 2) (v := .ref ra) hx hb hW inVE hown hM ((km_n (km_apB hv hr0)).trans ((km_n (km_apC hv ht (by decide))).trans (km_s _ _ _))) rfl 0 (by decide) (hW _ w_65) (fun _ h => h) rfl dVE_readPre_36 ?_
          refine lv_iconst (v := nI 3) hx hb dVE_readPre_39 (by decide) ?_
          refine lv_iload_n hx hb dVE_readPre_40 rfl (lv_at hl 0 rfl) ?_
          refine lv_iadd hx hb dVE_readPre_41 ?_
          refine topi_eq (y := nI 4) (nI_add 3 1) ?_
          refine lv_aload_n hx hb dVE_readPre_42 rfl (lv_at hl 2 rfl) ?_
          refine kc_l (va_runVN (C := RTP) (As := []) (b := ta) (rest := [.int (nI 4), .ref ra]) (Ts := Wd) ⟨hx, hb, hml, hown, hW⟩ (mTP_readMark l g (km_up (km_up (km_up μ va (.inr (2, [.ref ra, .int (nI (zi - ai))]))) ta (.inr (1, [.ref ba, .ref sa, .ref oa, .int (nI ln), .int (nI (a1 + 1)), .int (nI zi)]))) ra (.inl (g.2.2.1 2, 7, .inr (.inl (vp_updL F 3 (lN (mV v1))))))) ((km_n (km_apB ht hr0)).trans (km_s _ _ _)) hB ((km_n (km_apN hb0 hr0 (by decide))).trans ((km_n (km_apA hb0 ht)).trans ((km_n (km_apA hb0 hv)).trans hb0))) (by omega) (by omega)) ⟨(va_cnB 0 hW (k_gC w_178) rfl rfl rfl (hM.2.1.2.1 _ n_175) (hW _ w_2) (by decide +kernel) ⟨Nat.le_of_ble_eq_true rfl, Nat.le_of_ble_eq_true rfl⟩), hW _ w_177, hW _ p_12⟩ (k_preV (q := (RTP, TTP, 6)) hM ((km_n (km_apB ht hr0)).trans (km_s _ _ _)) rfl) rfl rfl hl.1 rfl (lv_room (Nat.le_of_ble_eq_true rfl)) dVE_readPre_43 ⟨Nat.zero_le _, Nat.zero_le _⟩) hM (fun r μ1 H locs hp hM => ?_)
          obtain ⟨rfl, hmu⟩ := hp
          rw [hmu] at hM
          have hM : kS g (km_up (km_up (km_up (km_up μ va (.inr (2, [.ref ra, .int (nI (zi - ai))]))) ta (.inr (1, [.ref ba, .ref sa, .ref oa, .int (nI ln), .int (nI (a1 + 1)), .int (nI zi)]))) ra (.inl (g.2.2.1 2, 7, .inr (.inl (vp_updL F 3 (lN (mV v1))))))) ta (.inr (1, [.ref ba, .ref sa, .ref oa, .int (nI ln), .int (nI (a1 + 1 + nM B (a1 + 1) (zi - (a1 + 1)))), .int (nI zi)]))) s H locs := hM
          have hM : kS g (km_up (km_up (km_up μ va (.inr (2, [.ref ra, .int (nI (zi - ai))]))) ta (.inr (1, [.ref ba, .ref sa, .ref oa, .int (nI ln), .int (nI (a1 + 1 + nM B (a1 + 1) (zi - (a1 + 1)))), .int (nI zi)]))) ra (.inl (g.2.2.1 2, 7, .inr (.inl (vp_updL F 3 (lN (mV v1))))))) s H locs := kS_eq (km_u2 _ _ _ _ (km_apB ht hr0)) hM
          rcases vMark_cases B (a := a1 + 1) (z := zi) (by omega) with ⟨hv4, hr4⟩ | ⟨v4, a4, hv4, hr4, hlt4, ha4, hle4, hln4⟩
          · refine topl_eq (y := (-1)) hr4 ?_
            refine k_last (i := 4) (f1 := (vp_updL (vp_updL F 3 (lN (mV v1))) 4 (-1))) hx hb hM 2 (km_s _ _ _) rfl (by omega) (by omega) rfl dVE_readPre_46 (fun H locs hM => ?_)
            have hM : kS g (km_up (km_up (km_up μ va (.inr (2, [.ref ra, .int (nI (zi - ai))]))) ta (.inr (1, [.ref ba, .ref sa, .ref oa, .int (nI ln), .int (nI (a1 + 1 + nM B (a1 + 1) (zi - (a1 + 1)))), .int (nI zi)]))) ra (.inl (g.2.2.1 2, 7, .inr (.inl (vp_updL (vp_updL F 3 (lN (mV v1))) 4 (-1)))))) s H locs := kS_eq (km_u1 _ _ _ _) hM
            refine lv_aload_n hx hb dVE_readPre_47 rfl (lv_at hl 1 rfl) ?_
            refine k_get (own := RVE) (ref := RVE) (C := RVE) (T := TVE) (N := 2) (ci := 2) (v := .ref ra) hx hb hW inVE hown hM ((km_n (km_apB hv hr0)).trans ((km_n (km_apC hv ht (by decide))).trans (km_s _ _ _))) rfl 0 (by decide) (hW _ w_65) (fun _ h => h) rfl dVE_readPre_48 ?_
            refine lv_iconst (v := nI 3) hx hb dVE_readPre_51 (by decide) ?_
            refine lv_iload_n hx hb dVE_readPre_52 rfl (lv_at hl 0 rfl) ?_
            refine lv_iadd hx hb dVE_readPre_53 ?_
            refine topi_eq (y := nI 4) (nI_add 3 1) ?_
            refine k_lald (i := 4) hx hb hM 2 (km_s _ _ _) rfl (by omega) (by omega) dVE_readPre_54 ?_
            refine topl_eq (y := (-1)) pk_uLs ?_
            refine lv_lconst (v := lN 0) hx hb dVE_readPre_55 (by decide) ?_
            refine W.lcmp hx hb dVE_readPre_56 ?_
            refine lv_if_ge (tgt := 62) hx hb dVE_readPre_57 (by decide) (fun h => absurd h lm1_ge) (fun _ => ?_)
            refine lv_iconst (v := nI 0) hx hb dVE_readPre_60 (by decide) ?_
            exact kr_z hx hb hr (by decide) hlocks hM dVE_readPre_61 (⟨_, _, rfl, Or.inl ⟨by rw [vPre_c hv1 hz2 hd3, vPre_n hv4]; rfl, rfl⟩⟩)
          · refine topl_eq (y := lN (mV v4)) hr4 ?_
            rw [ha4] at hM
            refine k_last (i := 4) (f1 := (vp_updL (vp_updL F 3 (lN (mV v1))) 4 (lN (mV v4)))) hx hb hM 2 (km_s _ _ _) rfl (by omega) (by omega) rfl dVE_readPre_46 (fun H locs hM => ?_)
            have hM : kS g (km_up (km_up (km_up μ va (.inr (2, [.ref ra, .int (nI (zi - ai))]))) ta (.inr (1, [.ref ba, .ref sa, .ref oa, .int (nI ln), .int (nI a4), .int (nI zi)]))) ra (.inl (g.2.2.1 2, 7, .inr (.inl (vp_updL (vp_updL F 3 (lN (mV v1))) 4 (lN (mV v4))))))) s H locs := kS_eq (km_u1 _ _ _ _) hM
            refine lv_aload_n hx hb dVE_readPre_47 rfl (lv_at hl 1 rfl) ?_
            refine k_get (own := RVE) (ref := RVE) (C := RVE) (T := TVE) (N := 2) (ci := 2) (v := .ref ra) hx hb hW inVE hown hM ((km_n (km_apB hv hr0)).trans ((km_n (km_apC hv ht (by decide))).trans (km_s _ _ _))) rfl 0 (by decide) (hW _ w_65) (fun _ h => h) rfl dVE_readPre_48 ?_
            refine lv_iconst (v := nI 3) hx hb dVE_readPre_51 (by decide) ?_
            refine lv_iload_n hx hb dVE_readPre_52 rfl (lv_at hl 0 rfl) ?_
            refine lv_iadd hx hb dVE_readPre_53 ?_
            refine topi_eq (y := nI 4) (nI_add 3 1) ?_
            refine k_lald (i := 4) hx hb hM 2 (km_s _ _ _) rfl (by omega) (by omega) dVE_readPre_54 ?_
            refine topl_eq (y := lN (mV v4)) pk_uLs ?_
            refine lv_lconst (v := lN 0) hx hb dVE_readPre_55 (by decide) ?_
            refine W.lcmp hx hb dVE_readPre_56 ?_
            refine lv_if_ge (tgt := 62) hx hb dVE_readPre_57 (by decide) (fun h57 => ?_) (fun h57 => ?_)
            · have h57 := (lJ_ge_t (a := (mV v4)) (b := 0) (by omega) (by omega)).mp h57
              refine lv_aload_n hx hb dVE_readPre_62 rfl (lv_at hl 2 rfl) ?_
              refine kc_i (va_runVN (C := RTP) (As := []) (b := ta) (rest := []) (Ts := Wd) ⟨hx, hb, hml, hown, hW⟩ (mTP_isAtStop l g (km_up (km_up (km_up μ va (.inr (2, [.ref ra, .int (nI (zi - ai))]))) ta (.inr (1, [.ref ba, .ref sa, .ref oa, .int (nI ln), .int (nI a4), .int (nI zi)]))) ra (.inl (g.2.2.1 2, 7, .inr (.inl (vp_updL (vp_updL F 3 (lN (mV v1))) 4 (lN (mV v4))))))) ((km_n (km_apB ht hr0)).trans (km_s _ _ _)) (by omega) (by omega)) ⟨(va_cnB 0 hW (k_gC w_170) rfl rfl rfl (hM.2.1.2.1 _ n_167) (hW _ w_2) (by decide +kernel) ⟨Nat.le_of_ble_eq_true rfl, Nat.le_of_ble_eq_true rfl⟩), hW _ w_169, hW _ p_10⟩ (k_preV (q := (RTP, TTP, 6)) hM ((km_n (km_apB ht hr0)).trans (km_s _ _ _)) rfl) rfl rfl hl.1 rfl (lv_room (Nat.le_of_ble_eq_true rfl)) dVE_readPre_63 ⟨Nat.zero_le _, Nat.zero_le _⟩) hM (fun r μ1 H locs hp hM => ?_)
              obtain ⟨rfl, hmu⟩ := hp
              rw [hmu] at hM
              rcases Decidable.em (a4 = zi) with hz5 | hz5
              · refine topi_eq (y := nI 1) (bI_t hz5).symm ?_
                refine lv_if_eq (tgt := 71) hx hb dVE_readPre_66 (by decide) (fun h => absurd h (by decide)) (fun _ => ?_)
                refine lv_iconst (v := nI 1) hx hb dVE_readPre_69 (by decide) ?_
                exact kr_z hx hb hr (by decide) hlocks hM dVE_readPre_70 (⟨_, _, rfl, Or.inr ⟨[v1, v4], by rw [vPre_c hv1 hz2 hd3, vPre_s hv4 hz5]; rfl, rfl, hz5, pF2 F v1 v4⟩⟩)
              · refine topi_eq (y := nI 0) (bI_f hz5).symm ?_
                refine lv_if_eq (tgt := 71) hx hb dVE_readPre_66 (by decide) (fun _ => ?_) (fun h => absurd (by decide) h)
                refine lv_iinc (v := nI 2) (lv' := [(2, .int (nI 2)), (0, .ref va), (1, .ref ta)]) (k := 0) hx hb dVE_readPre_71 hl rfl (by decide) (by decide) rfl (fun ls hl => ?_)
                refine lv_goto (tgt := 15) hx hb dVE_readPre_74 (by decide) ?_
                refine lv_iload_n hx hb dVE_readPre_15 rfl (lv_at hl 0 rfl) ?_
                refine lv_iconst (v := nI 4) hx hb dVE_readPre_16 (by decide) ?_
                refine lv_icmp_ge (tgt := 77) hx hb dVE_readPre_17 (by decide) (fun h => absurd h (by decide)) (fun _ => ?_)
                refine lv_iload_n hx hb dVE_readPre_20 rfl (lv_at hl 0 rfl) ?_
                refine lv_if_le (tgt := 35) hx hb dVE_readPre_21 (by decide) (fun h => absurd h (by decide)) (fun _ => ?_)
                refine lv_aload_n hx hb dVE_readPre_24 rfl (lv_at hl 2 rfl) ?_
                refine lv_bipush (v := nI 46) hx hb dVE_readPre_25 (by decide) ?_
                refine kc_i (va_runVN (C := RTP) (As := [.int (nI 46)]) (b := ta) (rest := []) (Ts := Wd) ⟨hx, hb, hml, hown, hW⟩ (mTP_skip l g (km_up (km_up (km_up μ va (.inr (2, [.ref ra, .int (nI (zi - ai))]))) ta (.inr (1, [.ref ba, .ref sa, .ref oa, .int (nI ln), .int (nI a4), .int (nI zi)]))) ra (.inl (g.2.2.1 2, 7, .inr (.inl (vp_updL (vp_updL F 3 (lN (mV v1))) 4 (lN (mV v4))))))) ((km_n (km_apB ht hr0)).trans (km_s _ _ _)) hB ((km_n (km_apN hb0 hr0 (by decide))).trans ((km_n (km_apA hb0 ht)).trans ((km_n (km_apA hb0 hv)).trans hb0))) (ch := 46) (by omega) (by omega) (by omega)) ⟨(va_cnB 1 hW (k_gC w_149) rfl rfl rfl (hM.2.1.2.1 _ n_146) (hW _ w_2) (by decide +kernel) ⟨Nat.le_of_ble_eq_true rfl, Nat.le_of_ble_eq_true rfl⟩), hW _ w_148, hW _ p_6⟩ (k_preV (q := (RTP, TTP, 6)) hM ((km_n (km_apB ht hr0)).trans (km_s _ _ _)) rfl) rfl rfl hl.1 rfl (lv_room (Nat.le_of_ble_eq_true rfl)) dVE_readPre_27 ⟨Nat.zero_le _, Nat.zero_le _⟩) hM (fun r μ1 H locs hp hM => ?_)
                obtain ⟨rfl, hmu⟩ := hp
                rw [hmu] at hM
                rcases Decidable.em (a4 < zi ∧ B a4 = 46) with hs6 | hs6
                · refine topi_eq (y := nI 1) (bI_t hs6).symm ?_
                  rw [if_pos hs6] at hM
                  have hd6 := vDot_t hs6
                  have hM : kS g (km_up (km_up (km_up μ va (.inr (2, [.ref ra, .int (nI (zi - ai))]))) ta (.inr (1, [.ref ba, .ref sa, .ref oa, .int (nI ln), .int (nI (a4 + 1)), .int (nI zi)]))) ra (.inl (g.2.2.1 2, 7, .inr (.inl (vp_updL (vp_updL F 3 (lN (mV v1))) 4 (lN (mV v4))))))) s H locs := kS_eq (km_u2 _ _ _ _ (km_apB ht hr0)) hM
                  refine lv_if_ne (tgt := 35) hx hb dVE_readPre_30 (by decide) (fun _ => ?_) (fun h => absurd h (by decide))
                  refine lv_aload_n hx hb dVE_readPre_35 rfl (lv_at hl 1 rfl) ?_
                  refine k_get (own := RVE) (ref := RVE) (C := RVE) (T := TVE) (N := 2) (ci := 2) (v := .ref ra) hx hb hW inVE hown hM ((km_n (km_apB hv hr0)).trans ((km_n (km_apC hv ht (by decide))).trans (km_s _ _ _))) rfl 0 (by decide) (hW _ w_65) (fun _ h => h) rfl dVE_readPre_36 ?_
                  refine lv_iconst (v := nI 3) hx hb dVE_readPre_39 (by decide) ?_
                  refine lv_iload_n hx hb dVE_readPre_40 rfl (lv_at hl 0 rfl) ?_
                  refine lv_iadd hx hb dVE_readPre_41 ?_
                  refine topi_eq (y := nI 5) (nI_add 3 2) ?_
                  refine lv_aload_n hx hb dVE_readPre_42 rfl (lv_at hl 2 rfl) ?_
                  refine kc_l (va_runVN (C := RTP) (As := []) (b := ta) (rest := [.int (nI 5), .ref ra]) (Ts := Wd) ⟨hx, hb, hml, hown, hW⟩ (mTP_readMark l g (km_up (km_up (km_up μ va (.inr (2, [.ref ra, .int (nI (zi - ai))]))) ta (.inr (1, [.ref ba, .ref sa, .ref oa, .int (nI ln), .int (nI (a4 + 1)), .int (nI zi)]))) ra (.inl (g.2.2.1 2, 7, .inr (.inl (vp_updL (vp_updL F 3 (lN (mV v1))) 4 (lN (mV v4))))))) ((km_n (km_apB ht hr0)).trans (km_s _ _ _)) hB ((km_n (km_apN hb0 hr0 (by decide))).trans ((km_n (km_apA hb0 ht)).trans ((km_n (km_apA hb0 hv)).trans hb0))) (by omega) (by omega)) ⟨(va_cnB 0 hW (k_gC w_178) rfl rfl rfl (hM.2.1.2.1 _ n_175) (hW _ w_2) (by decide +kernel) ⟨Nat.le_of_ble_eq_true rfl, Nat.le_of_ble_eq_true rfl⟩), hW _ w_177, hW _ p_12⟩ (k_preV (q := (RTP, TTP, 6)) hM ((km_n (km_apB ht hr0)).trans (km_s _ _ _)) rfl) rfl rfl hl.1 rfl (lv_room (Nat.le_of_ble_eq_true rfl)) dVE_readPre_43 ⟨Nat.zero_le _, Nat.zero_le _⟩) hM (fun r μ1 H locs hp hM => ?_)
                  obtain ⟨rfl, hmu⟩ := hp
                  rw [hmu] at hM
                  have hM : kS g (km_up (km_up (km_up (km_up μ va (.inr (2, [.ref ra, .int (nI (zi - ai))]))) ta (.inr (1, [.ref ba, .ref sa, .ref oa, .int (nI ln), .int (nI (a4 + 1)), .int (nI zi)]))) ra (.inl (g.2.2.1 2, 7, .inr (.inl (vp_updL (vp_updL F 3 (lN (mV v1))) 4 (lN (mV v4))))))) ta (.inr (1, [.ref ba, .ref sa, .ref oa, .int (nI ln), .int (nI (a4 + 1 + nM B (a4 + 1) (zi - (a4 + 1)))), .int (nI zi)]))) s H locs := hM
                  have hM : kS g (km_up (km_up (km_up μ va (.inr (2, [.ref ra, .int (nI (zi - ai))]))) ta (.inr (1, [.ref ba, .ref sa, .ref oa, .int (nI ln), .int (nI (a4 + 1 + nM B (a4 + 1) (zi - (a4 + 1)))), .int (nI zi)]))) ra (.inl (g.2.2.1 2, 7, .inr (.inl (vp_updL (vp_updL F 3 (lN (mV v1))) 4 (lN (mV v4))))))) s H locs := kS_eq (km_u2 _ _ _ _ (km_apB ht hr0)) hM
                  rcases vMark_cases B (a := a4 + 1) (z := zi) (by omega) with ⟨hv7, hr7⟩ | ⟨v7, a7, hv7, hr7, hlt7, ha7, hle7, hln7⟩
                  · refine topl_eq (y := (-1)) hr7 ?_
                    refine k_last (i := 5) (f1 := (vp_updL (vp_updL (vp_updL F 3 (lN (mV v1))) 4 (lN (mV v4))) 5 (-1))) hx hb hM 2 (km_s _ _ _) rfl (by omega) (by omega) rfl dVE_readPre_46 (fun H locs hM => ?_)
                    have hM : kS g (km_up (km_up (km_up μ va (.inr (2, [.ref ra, .int (nI (zi - ai))]))) ta (.inr (1, [.ref ba, .ref sa, .ref oa, .int (nI ln), .int (nI (a4 + 1 + nM B (a4 + 1) (zi - (a4 + 1)))), .int (nI zi)]))) ra (.inl (g.2.2.1 2, 7, .inr (.inl (vp_updL (vp_updL (vp_updL F 3 (lN (mV v1))) 4 (lN (mV v4))) 5 (-1)))))) s H locs := kS_eq (km_u1 _ _ _ _) hM
                    refine lv_aload_n hx hb dVE_readPre_47 rfl (lv_at hl 1 rfl) ?_
                    refine k_get (own := RVE) (ref := RVE) (C := RVE) (T := TVE) (N := 2) (ci := 2) (v := .ref ra) hx hb hW inVE hown hM ((km_n (km_apB hv hr0)).trans ((km_n (km_apC hv ht (by decide))).trans (km_s _ _ _))) rfl 0 (by decide) (hW _ w_65) (fun _ h => h) rfl dVE_readPre_48 ?_
                    refine lv_iconst (v := nI 3) hx hb dVE_readPre_51 (by decide) ?_
                    refine lv_iload_n hx hb dVE_readPre_52 rfl (lv_at hl 0 rfl) ?_
                    refine lv_iadd hx hb dVE_readPre_53 ?_
                    refine topi_eq (y := nI 5) (nI_add 3 2) ?_
                    refine k_lald (i := 5) hx hb hM 2 (km_s _ _ _) rfl (by omega) (by omega) dVE_readPre_54 ?_
                    refine topl_eq (y := (-1)) pk_uLs ?_
                    refine lv_lconst (v := lN 0) hx hb dVE_readPre_55 (by decide) ?_
                    refine W.lcmp hx hb dVE_readPre_56 ?_
                    refine lv_if_ge (tgt := 62) hx hb dVE_readPre_57 (by decide) (fun h => absurd h lm1_ge) (fun _ => ?_)
                    refine lv_iconst (v := nI 0) hx hb dVE_readPre_60 (by decide) ?_
                    exact kr_z hx hb hr (by decide) hlocks hM dVE_readPre_61 (⟨_, _, rfl, Or.inl ⟨by rw [vPre_c hv1 hz2 hd3, vPre_c hv4 hz5 hd6, vPre_n hv7]; rfl, rfl⟩⟩)
                  · refine topl_eq (y := lN (mV v7)) hr7 ?_
                    rw [ha7] at hM
                    refine k_last (i := 5) (f1 := (vp_updL (vp_updL (vp_updL F 3 (lN (mV v1))) 4 (lN (mV v4))) 5 (lN (mV v7)))) hx hb hM 2 (km_s _ _ _) rfl (by omega) (by omega) rfl dVE_readPre_46 (fun H locs hM => ?_)
                    have hM : kS g (km_up (km_up (km_up μ va (.inr (2, [.ref ra, .int (nI (zi - ai))]))) ta (.inr (1, [.ref ba, .ref sa, .ref oa, .int (nI ln), .int (nI a7), .int (nI zi)]))) ra (.inl (g.2.2.1 2, 7, .inr (.inl (vp_updL (vp_updL (vp_updL F 3 (lN (mV v1))) 4 (lN (mV v4))) 5 (lN (mV v7))))))) s H locs := kS_eq (km_u1 _ _ _ _) hM
                    refine lv_aload_n hx hb dVE_readPre_47 rfl (lv_at hl 1 rfl) ?_
                    refine k_get (own := RVE) (ref := RVE) (C := RVE) (T := TVE) (N := 2) (ci := 2) (v := .ref ra) hx hb hW inVE hown hM ((km_n (km_apB hv hr0)).trans ((km_n (km_apC hv ht (by decide))).trans (km_s _ _ _))) rfl 0 (by decide) (hW _ w_65) (fun _ h => h) rfl dVE_readPre_48 ?_
                    refine lv_iconst (v := nI 3) hx hb dVE_readPre_51 (by decide) ?_
                    refine lv_iload_n hx hb dVE_readPre_52 rfl (lv_at hl 0 rfl) ?_
                    refine lv_iadd hx hb dVE_readPre_53 ?_
                    refine topi_eq (y := nI 5) (nI_add 3 2) ?_
                    refine k_lald (i := 5) hx hb hM 2 (km_s _ _ _) rfl (by omega) (by omega) dVE_readPre_54 ?_
                    refine topl_eq (y := lN (mV v7)) pk_uLs ?_
                    refine lv_lconst (v := lN 0) hx hb dVE_readPre_55 (by decide) ?_
                    refine W.lcmp hx hb dVE_readPre_56 ?_
                    refine lv_if_ge (tgt := 62) hx hb dVE_readPre_57 (by decide) (fun h57 => ?_) (fun h57 => ?_)
                    · have h57 := (lJ_ge_t (a := (mV v7)) (b := 0) (by omega) (by omega)).mp h57
                      refine lv_aload_n hx hb dVE_readPre_62 rfl (lv_at hl 2 rfl) ?_
                      refine kc_i (va_runVN (C := RTP) (As := []) (b := ta) (rest := []) (Ts := Wd) ⟨hx, hb, hml, hown, hW⟩ (mTP_isAtStop l g (km_up (km_up (km_up μ va (.inr (2, [.ref ra, .int (nI (zi - ai))]))) ta (.inr (1, [.ref ba, .ref sa, .ref oa, .int (nI ln), .int (nI a7), .int (nI zi)]))) ra (.inl (g.2.2.1 2, 7, .inr (.inl (vp_updL (vp_updL (vp_updL F 3 (lN (mV v1))) 4 (lN (mV v4))) 5 (lN (mV v7))))))) ((km_n (km_apB ht hr0)).trans (km_s _ _ _)) (by omega) (by omega)) ⟨(va_cnB 0 hW (k_gC w_170) rfl rfl rfl (hM.2.1.2.1 _ n_167) (hW _ w_2) (by decide +kernel) ⟨Nat.le_of_ble_eq_true rfl, Nat.le_of_ble_eq_true rfl⟩), hW _ w_169, hW _ p_10⟩ (k_preV (q := (RTP, TTP, 6)) hM ((km_n (km_apB ht hr0)).trans (km_s _ _ _)) rfl) rfl rfl hl.1 rfl (lv_room (Nat.le_of_ble_eq_true rfl)) dVE_readPre_63 ⟨Nat.zero_le _, Nat.zero_le _⟩) hM (fun r μ1 H locs hp hM => ?_)
                      obtain ⟨rfl, hmu⟩ := hp
                      rw [hmu] at hM
                      rcases Decidable.em (a7 = zi) with hz8 | hz8
                      · refine topi_eq (y := nI 1) (bI_t hz8).symm ?_
                        refine lv_if_eq (tgt := 71) hx hb dVE_readPre_66 (by decide) (fun h => absurd h (by decide)) (fun _ => ?_)
                        refine lv_iconst (v := nI 1) hx hb dVE_readPre_69 (by decide) ?_
                        exact kr_z hx hb hr (by decide) hlocks hM dVE_readPre_70 (⟨_, _, rfl, Or.inr ⟨[v1, v4, v7], by rw [vPre_c hv1 hz2 hd3, vPre_c hv4 hz5 hd6, vPre_s hv7 hz8]; rfl, rfl, hz8, pF3 F v1 v4 v7⟩⟩)
                      · refine topi_eq (y := nI 0) (bI_f hz8).symm ?_
                        refine lv_if_eq (tgt := 71) hx hb dVE_readPre_66 (by decide) (fun _ => ?_) (fun h => absurd (by decide) h)
                        refine lv_iinc (v := nI 3) (lv' := [(2, .int (nI 3)), (0, .ref va), (1, .ref ta)]) (k := 0) hx hb dVE_readPre_71 hl rfl (by decide) (by decide) rfl (fun ls hl => ?_)
                        refine lv_goto (tgt := 15) hx hb dVE_readPre_74 (by decide) ?_
                        refine lv_iload_n hx hb dVE_readPre_15 rfl (lv_at hl 0 rfl) ?_
                        refine lv_iconst (v := nI 4) hx hb dVE_readPre_16 (by decide) ?_
                        refine lv_icmp_ge (tgt := 77) hx hb dVE_readPre_17 (by decide) (fun h => absurd h (by decide)) (fun _ => ?_)
                        refine lv_iload_n hx hb dVE_readPre_20 rfl (lv_at hl 0 rfl) ?_
                        refine lv_if_le (tgt := 35) hx hb dVE_readPre_21 (by decide) (fun h => absurd h (by decide)) (fun _ => ?_)
                        refine lv_aload_n hx hb dVE_readPre_24 rfl (lv_at hl 2 rfl) ?_
                        refine lv_bipush (v := nI 46) hx hb dVE_readPre_25 (by decide) ?_
                        refine kc_i (va_runVN (C := RTP) (As := [.int (nI 46)]) (b := ta) (rest := []) (Ts := Wd) ⟨hx, hb, hml, hown, hW⟩ (mTP_skip l g (km_up (km_up (km_up μ va (.inr (2, [.ref ra, .int (nI (zi - ai))]))) ta (.inr (1, [.ref ba, .ref sa, .ref oa, .int (nI ln), .int (nI a7), .int (nI zi)]))) ra (.inl (g.2.2.1 2, 7, .inr (.inl (vp_updL (vp_updL (vp_updL F 3 (lN (mV v1))) 4 (lN (mV v4))) 5 (lN (mV v7))))))) ((km_n (km_apB ht hr0)).trans (km_s _ _ _)) hB ((km_n (km_apN hb0 hr0 (by decide))).trans ((km_n (km_apA hb0 ht)).trans ((km_n (km_apA hb0 hv)).trans hb0))) (ch := 46) (by omega) (by omega) (by omega)) ⟨(va_cnB 1 hW (k_gC w_149) rfl rfl rfl (hM.2.1.2.1 _ n_146) (hW _ w_2) (by decide +kernel) ⟨Nat.le_of_ble_eq_true rfl, Nat.le_of_ble_eq_true rfl⟩), hW _ w_148, hW _ p_6⟩ (k_preV (q := (RTP, TTP, 6)) hM ((km_n (km_apB ht hr0)).trans (km_s _ _ _)) rfl) rfl rfl hl.1 rfl (lv_room (Nat.le_of_ble_eq_true rfl)) dVE_readPre_27 ⟨Nat.zero_le _, Nat.zero_le _⟩) hM (fun r μ1 H locs hp hM => ?_)
                        obtain ⟨rfl, hmu⟩ := hp
                        rw [hmu] at hM
                        rcases Decidable.em (a7 < zi ∧ B a7 = 46) with hs9 | hs9
                        · refine topi_eq (y := nI 1) (bI_t hs9).symm ?_
                          rw [if_pos hs9] at hM
                          have hd9 := vDot_t hs9
                          have hM : kS g (km_up (km_up (km_up μ va (.inr (2, [.ref ra, .int (nI (zi - ai))]))) ta (.inr (1, [.ref ba, .ref sa, .ref oa, .int (nI ln), .int (nI (a7 + 1)), .int (nI zi)]))) ra (.inl (g.2.2.1 2, 7, .inr (.inl (vp_updL (vp_updL (vp_updL F 3 (lN (mV v1))) 4 (lN (mV v4))) 5 (lN (mV v7))))))) s H locs := kS_eq (km_u2 _ _ _ _ (km_apB ht hr0)) hM
                          refine lv_if_ne (tgt := 35) hx hb dVE_readPre_30 (by decide) (fun _ => ?_) (fun h => absurd h (by decide))
                          refine lv_aload_n hx hb dVE_readPre_35 rfl (lv_at hl 1 rfl) ?_
                          refine k_get (own := RVE) (ref := RVE) (C := RVE) (T := TVE) (N := 2) (ci := 2) (v := .ref ra) hx hb hW inVE hown hM ((km_n (km_apB hv hr0)).trans ((km_n (km_apC hv ht (by decide))).trans (km_s _ _ _))) rfl 0 (by decide) (hW _ w_65) (fun _ h => h) rfl dVE_readPre_36 ?_
                          refine lv_iconst (v := nI 3) hx hb dVE_readPre_39 (by decide) ?_
                          refine lv_iload_n hx hb dVE_readPre_40 rfl (lv_at hl 0 rfl) ?_
                          refine lv_iadd hx hb dVE_readPre_41 ?_
                          refine topi_eq (y := nI 6) (nI_add 3 3) ?_
                          refine lv_aload_n hx hb dVE_readPre_42 rfl (lv_at hl 2 rfl) ?_
                          refine kc_l (va_runVN (C := RTP) (As := []) (b := ta) (rest := [.int (nI 6), .ref ra]) (Ts := Wd) ⟨hx, hb, hml, hown, hW⟩ (mTP_readMark l g (km_up (km_up (km_up μ va (.inr (2, [.ref ra, .int (nI (zi - ai))]))) ta (.inr (1, [.ref ba, .ref sa, .ref oa, .int (nI ln), .int (nI (a7 + 1)), .int (nI zi)]))) ra (.inl (g.2.2.1 2, 7, .inr (.inl (vp_updL (vp_updL (vp_updL F 3 (lN (mV v1))) 4 (lN (mV v4))) 5 (lN (mV v7))))))) ((km_n (km_apB ht hr0)).trans (km_s _ _ _)) hB ((km_n (km_apN hb0 hr0 (by decide))).trans ((km_n (km_apA hb0 ht)).trans ((km_n (km_apA hb0 hv)).trans hb0))) (by omega) (by omega)) ⟨(va_cnB 0 hW (k_gC w_178) rfl rfl rfl (hM.2.1.2.1 _ n_175) (hW _ w_2) (by decide +kernel) ⟨Nat.le_of_ble_eq_true rfl, Nat.le_of_ble_eq_true rfl⟩), hW _ w_177, hW _ p_12⟩ (k_preV (q := (RTP, TTP, 6)) hM ((km_n (km_apB ht hr0)).trans (km_s _ _ _)) rfl) rfl rfl hl.1 rfl (lv_room (Nat.le_of_ble_eq_true rfl)) dVE_readPre_43 ⟨Nat.zero_le _, Nat.zero_le _⟩) hM (fun r μ1 H locs hp hM => ?_)
                          obtain ⟨rfl, hmu⟩ := hp
                          rw [hmu] at hM
                          have hM : kS g (km_up (km_up (km_up (km_up μ va (.inr (2, [.ref ra, .int (nI (zi - ai))]))) ta (.inr (1, [.ref ba, .ref sa, .ref oa, .int (nI ln), .int (nI (a7 + 1)), .int (nI zi)]))) ra (.inl (g.2.2.1 2, 7, .inr (.inl (vp_updL (vp_updL (vp_updL F 3 (lN (mV v1))) 4 (lN (mV v4))) 5 (lN (mV v7))))))) ta (.inr (1, [.ref ba, .ref sa, .ref oa, .int (nI ln), .int (nI (a7 + 1 + nM B (a7 + 1) (zi - (a7 + 1)))), .int (nI zi)]))) s H locs := hM
                          have hM : kS g (km_up (km_up (km_up μ va (.inr (2, [.ref ra, .int (nI (zi - ai))]))) ta (.inr (1, [.ref ba, .ref sa, .ref oa, .int (nI ln), .int (nI (a7 + 1 + nM B (a7 + 1) (zi - (a7 + 1)))), .int (nI zi)]))) ra (.inl (g.2.2.1 2, 7, .inr (.inl (vp_updL (vp_updL (vp_updL F 3 (lN (mV v1))) 4 (lN (mV v4))) 5 (lN (mV v7))))))) s H locs := kS_eq (km_u2 _ _ _ _ (km_apB ht hr0)) hM
                          rcases vMark_cases B (a := a7 + 1) (z := zi) (by omega) with ⟨hv10, hr10⟩ | ⟨v10, a10, hv10, hr10, hlt10, ha10, hle10, hln10⟩
                          · refine topl_eq (y := (-1)) hr10 ?_
                            refine k_last (i := 6) (f1 := (vp_updL (vp_updL (vp_updL (vp_updL F 3 (lN (mV v1))) 4 (lN (mV v4))) 5 (lN (mV v7))) 6 (-1))) hx hb hM 2 (km_s _ _ _) rfl (by omega) (by omega) rfl dVE_readPre_46 (fun H locs hM => ?_)
                            have hM : kS g (km_up (km_up (km_up μ va (.inr (2, [.ref ra, .int (nI (zi - ai))]))) ta (.inr (1, [.ref ba, .ref sa, .ref oa, .int (nI ln), .int (nI (a7 + 1 + nM B (a7 + 1) (zi - (a7 + 1)))), .int (nI zi)]))) ra (.inl (g.2.2.1 2, 7, .inr (.inl (vp_updL (vp_updL (vp_updL (vp_updL F 3 (lN (mV v1))) 4 (lN (mV v4))) 5 (lN (mV v7))) 6 (-1)))))) s H locs := kS_eq (km_u1 _ _ _ _) hM
                            refine lv_aload_n hx hb dVE_readPre_47 rfl (lv_at hl 1 rfl) ?_
                            refine k_get (own := RVE) (ref := RVE) (C := RVE) (T := TVE) (N := 2) (ci := 2) (v := .ref ra) hx hb hW inVE hown hM ((km_n (km_apB hv hr0)).trans ((km_n (km_apC hv ht (by decide))).trans (km_s _ _ _))) rfl 0 (by decide) (hW _ w_65) (fun _ h => h) rfl dVE_readPre_48 ?_
                            refine lv_iconst (v := nI 3) hx hb dVE_readPre_51 (by decide) ?_
                            refine lv_iload_n hx hb dVE_readPre_52 rfl (lv_at hl 0 rfl) ?_
                            refine lv_iadd hx hb dVE_readPre_53 ?_
                            refine topi_eq (y := nI 6) (nI_add 3 3) ?_
                            refine k_lald (i := 6) hx hb hM 2 (km_s _ _ _) rfl (by omega) (by omega) dVE_readPre_54 ?_
                            refine topl_eq (y := (-1)) pk_uLs ?_
                            refine lv_lconst (v := lN 0) hx hb dVE_readPre_55 (by decide) ?_
                            refine W.lcmp hx hb dVE_readPre_56 ?_
                            refine lv_if_ge (tgt := 62) hx hb dVE_readPre_57 (by decide) (fun h => absurd h lm1_ge) (fun _ => ?_)
                            refine lv_iconst (v := nI 0) hx hb dVE_readPre_60 (by decide) ?_
                            exact kr_z hx hb hr (by decide) hlocks hM dVE_readPre_61 (⟨_, _, rfl, Or.inl ⟨by rw [vPre_c hv1 hz2 hd3, vPre_c hv4 hz5 hd6, vPre_c hv7 hz8 hd9, vPre_n hv10]; rfl, rfl⟩⟩)
                          · refine topl_eq (y := lN (mV v10)) hr10 ?_
                            rw [ha10] at hM
                            refine k_last (i := 6) (f1 := (vp_updL (vp_updL (vp_updL (vp_updL F 3 (lN (mV v1))) 4 (lN (mV v4))) 5 (lN (mV v7))) 6 (lN (mV v10)))) hx hb hM 2 (km_s _ _ _) rfl (by omega) (by omega) rfl dVE_readPre_46 (fun H locs hM => ?_)
                            have hM : kS g (km_up (km_up (km_up μ va (.inr (2, [.ref ra, .int (nI (zi - ai))]))) ta (.inr (1, [.ref ba, .ref sa, .ref oa, .int (nI ln), .int (nI a10), .int (nI zi)]))) ra (.inl (g.2.2.1 2, 7, .inr (.inl (vp_updL (vp_updL (vp_updL (vp_updL F 3 (lN (mV v1))) 4 (lN (mV v4))) 5 (lN (mV v7))) 6 (lN (mV v10))))))) s H locs := kS_eq (km_u1 _ _ _ _) hM
                            refine lv_aload_n hx hb dVE_readPre_47 rfl (lv_at hl 1 rfl) ?_
                            refine k_get (own := RVE) (ref := RVE) (C := RVE) (T := TVE) (N := 2) (ci := 2) (v := .ref ra) hx hb hW inVE hown hM ((km_n (km_apB hv hr0)).trans ((km_n (km_apC hv ht (by decide))).trans (km_s _ _ _))) rfl 0 (by decide) (hW _ w_65) (fun _ h => h) rfl dVE_readPre_48 ?_
                            refine lv_iconst (v := nI 3) hx hb dVE_readPre_51 (by decide) ?_
                            refine lv_iload_n hx hb dVE_readPre_52 rfl (lv_at hl 0 rfl) ?_
                            refine lv_iadd hx hb dVE_readPre_53 ?_
                            refine topi_eq (y := nI 6) (nI_add 3 3) ?_
                            refine k_lald (i := 6) hx hb hM 2 (km_s _ _ _) rfl (by omega) (by omega) dVE_readPre_54 ?_
                            refine topl_eq (y := lN (mV v10)) pk_uLs ?_
                            refine lv_lconst (v := lN 0) hx hb dVE_readPre_55 (by decide) ?_
                            refine W.lcmp hx hb dVE_readPre_56 ?_
                            refine lv_if_ge (tgt := 62) hx hb dVE_readPre_57 (by decide) (fun h57 => ?_) (fun h57 => ?_)
                            · have h57 := (lJ_ge_t (a := (mV v10)) (b := 0) (by omega) (by omega)).mp h57
                              refine lv_aload_n hx hb dVE_readPre_62 rfl (lv_at hl 2 rfl) ?_
                              refine kc_i (va_runVN (C := RTP) (As := []) (b := ta) (rest := []) (Ts := Wd) ⟨hx, hb, hml, hown, hW⟩ (mTP_isAtStop l g (km_up (km_up (km_up μ va (.inr (2, [.ref ra, .int (nI (zi - ai))]))) ta (.inr (1, [.ref ba, .ref sa, .ref oa, .int (nI ln), .int (nI a10), .int (nI zi)]))) ra (.inl (g.2.2.1 2, 7, .inr (.inl (vp_updL (vp_updL (vp_updL (vp_updL F 3 (lN (mV v1))) 4 (lN (mV v4))) 5 (lN (mV v7))) 6 (lN (mV v10))))))) ((km_n (km_apB ht hr0)).trans (km_s _ _ _)) (by omega) (by omega)) ⟨(va_cnB 0 hW (k_gC w_170) rfl rfl rfl (hM.2.1.2.1 _ n_167) (hW _ w_2) (by decide +kernel) ⟨Nat.le_of_ble_eq_true rfl, Nat.le_of_ble_eq_true rfl⟩), hW _ w_169, hW _ p_10⟩ (k_preV (q := (RTP, TTP, 6)) hM ((km_n (km_apB ht hr0)).trans (km_s _ _ _)) rfl) rfl rfl hl.1 rfl (lv_room (Nat.le_of_ble_eq_true rfl)) dVE_readPre_63 ⟨Nat.zero_le _, Nat.zero_le _⟩) hM (fun r μ1 H locs hp hM => ?_)
                              obtain ⟨rfl, hmu⟩ := hp
                              rw [hmu] at hM
                              rcases Decidable.em (a10 = zi) with hz11 | hz11
                              · refine topi_eq (y := nI 1) (bI_t hz11).symm ?_
                                refine lv_if_eq (tgt := 71) hx hb dVE_readPre_66 (by decide) (fun h => absurd h (by decide)) (fun _ => ?_)
                                refine lv_iconst (v := nI 1) hx hb dVE_readPre_69 (by decide) ?_
                                exact kr_z hx hb hr (by decide) hlocks hM dVE_readPre_70 (⟨_, _, rfl, Or.inr ⟨[v1, v4, v7, v10], by rw [vPre_c hv1 hz2 hd3, vPre_c hv4 hz5 hd6, vPre_c hv7 hz8 hd9, vPre_s hv10 hz11]; rfl, rfl, hz11, pF4 F v1 v4 v7 v10⟩⟩)
                              · refine topi_eq (y := nI 0) (bI_f hz11).symm ?_
                                refine lv_if_eq (tgt := 71) hx hb dVE_readPre_66 (by decide) (fun _ => ?_) (fun h => absurd (by decide) h)
                                refine lv_iinc (v := nI 4) (lv' := [(2, .int (nI 4)), (0, .ref va), (1, .ref ta)]) (k := 0) hx hb dVE_readPre_71 hl rfl (by decide) (by decide) rfl (fun ls hl => ?_)
                                refine lv_goto (tgt := 15) hx hb dVE_readPre_74 (by decide) ?_
                                refine lv_iload_n hx hb dVE_readPre_15 rfl (lv_at hl 0 rfl) ?_
                                refine lv_iconst (v := nI 4) hx hb dVE_readPre_16 (by decide) ?_
                                refine lv_icmp_ge (tgt := 77) hx hb dVE_readPre_17 (by decide) (fun _ => ?_) (fun h => absurd (by decide) h)
                                refine lv_iconst (v := nI 0) hx hb dVE_readPre_77 (by decide) ?_
                                exact kr_z hx hb hr (by decide) hlocks hM dVE_readPre_78 (⟨_, _, rfl, Or.inl ⟨by rw [vPre_c hv1 hz2 hd3, vPre_c hv4 hz5 hd6, vPre_c hv7 hz8 hd9, vPre_l hv10 hz11]; rfl, rfl⟩⟩)
                            · have h57 := (lJ_ge_f (a := (mV v10)) (b := 0) (by omega) (by omega)).mp h57
                              exact absurd h57 (Nat.not_lt_zero _)
                        · refine topi_eq (y := nI 0) (bI_f hs9).symm ?_
                          rw [if_neg hs9] at hM
                          have hd9 := vDot_f hs9
                          refine lv_if_ne (tgt := 35) hx hb dVE_readPre_30 (by decide) (fun h => absurd (by decide) h) (fun _ => ?_)
                          refine lv_iconst (v := nI 0) hx hb dVE_readPre_33 (by decide) ?_
                          exact kr_z hx hb hr (by decide) hlocks hM dVE_readPre_34 (⟨_, _, rfl, Or.inl ⟨by rw [vPre_c hv1 hz2 hd3, vPre_c hv4 hz5 hd6, vPre_d hv7 hz8 hd9]; rfl, rfl⟩⟩)
                    · have h57 := (lJ_ge_f (a := (mV v7)) (b := 0) (by omega) (by omega)).mp h57
                      exact absurd h57 (Nat.not_lt_zero _)
                · refine topi_eq (y := nI 0) (bI_f hs6).symm ?_
                  rw [if_neg hs6] at hM
                  have hd6 := vDot_f hs6
                  refine lv_if_ne (tgt := 35) hx hb dVE_readPre_30 (by decide) (fun h => absurd (by decide) h) (fun _ => ?_)
                  refine lv_iconst (v := nI 0) hx hb dVE_readPre_33 (by decide) ?_
                  exact kr_z hx hb hr (by decide) hlocks hM dVE_readPre_34 (⟨_, _, rfl, Or.inl ⟨by rw [vPre_c hv1 hz2 hd3, vPre_d hv4 hz5 hd6]; rfl, rfl⟩⟩)
            · have h57 := (lJ_ge_f (a := (mV v4)) (b := 0) (by omega) (by omega)).mp h57
              exact absurd h57 (Nat.not_lt_zero _)
        · refine topi_eq (y := nI 0) (bI_f hs3).symm ?_
          rw [if_neg hs3] at hM
          have hd3 := vDot_f hs3
          refine lv_if_ne (tgt := 35) hx hb dVE_readPre_30 (by decide) (fun h => absurd (by decide) h) (fun _ => ?_)
          refine lv_iconst (v := nI 0) hx hb dVE_readPre_33 (by decide) ?_
          exact kr_z hx hb hr (by decide) hlocks hM dVE_readPre_34 (⟨_, _, rfl, Or.inl ⟨by rw [vPre_d hv1 hz2 hd3], rfl⟩⟩)
    · have h57 := (lJ_ge_f (a := (mV v1)) (b := 0) (by omega) (by omega)).mp h57
      exact absurd h57 (Nat.not_lt_zero _)
end
section
set_option maxHeartbeats 800000 in
set_option maxRecDepth 100000 in
theorem mVE_readFrom (l : Launch) (g : kG) (μ : km_M) {va ra pb : Nat} {F : Nat → Int64} (hv : μ va = some (.inr (2, [.ref ra, .int (nI pb)]))) (hr0 : μ ra = some (.inl (g.2.2.1 2, 7, .inr (.inl F)))) {ta ba sa oa ln ai zi : Nat} (ht : μ ta = some (.inr (1, [.ref ba, .ref sa, .ref oa, .int (nI ln), .int (nI ai), .int (nI zi)]))) {B : Nat → Nat} (hB : ∀ k, B k < 256) (hb0 : μ ba = some (.inl (g.2.2.1 0, 400, .inl (fun j => sb (B j))))) (hai : ai ≤ zi) (hzi : zi ≤ 400) : Met l yVE_readFrom (Cond.code yVE_readFrom cVE_readFrom 3 (some .boolean) :: Wd) ({ frames := 3, cells := 0, slots := 0, locals := 71 } : Room) (kPre g μ [.ref va, .ref ta]) (kQi g (fun (r : Int32) (μ1 : km_M) => ∃ (F1 : Nat → Int64) (pb1 a1 : Nat), μ1 = km_up (km_up (km_up μ ta (.inr (1, [.ref ba, .ref sa, .ref oa, .int (nI ln), .int (nI a1), .int (nI zi)]))) ra (.inl (g.2.2.1 2, 7, .inr (.inl F1)))) va (.inr (2, [.ref ra, .int (nI pb1)])) ∧ ((vVer B ai zi = none ∧ r = nI 0) ∨ (∃ v, vVer B ai zi = some v ∧ r = nI 1 ∧ pb1 = mLen v.2.2.2 ∧ ∀ k, k < 7 → F1 k = rowOf v k)))) 0 0 (kF g) := by
  refine k_met (by decide) (Nat.le_of_ble_eq_true rfl) ?_
  intro p e s m below meth c hx hb hr hlocks hml hown hnm hW ls hl H locs hM
  have hl : lv_has ls 3 [(0, .ref va), (1, .ref ta)] := hl
  refine lv_iconst (v := nI 0) hx hb dVE_readFrom_0 (by decide) ?_
  refine lv_istore_n (lv' := [(2, .int (nI 0)), (0, .ref va), (1, .ref ta)]) hx hb dVE_readFrom_1 rfl hl (by decide) rfl (fun ls hl => ?_)
  refine lv_iload_n hx hb dVE_readFrom_2 rfl (lv_at hl 0 rfl) ?_
  refine lv_iconst (v := nI 3) hx hb dVE_readFrom_3 (by decide) ?_
  refine lv_icmp_ge (tgt := 52) hx hb dVE_readFrom_4 (by decide) (fun h => absurd h (by decide)) (fun _ => ?_)
  refine lv_iload_n hx hb dVE_readFrom_7 rfl (lv_at hl 0 rfl) ?_
  refine lv_if_le (tgt := 22) hx hb dVE_readFrom_8 (by decide) (fun _ => ?_) (fun h => absurd (by decide) h)
  refine lv_aload_n hx hb dVE_readFrom_22 rfl (lv_at hl 1 rfl) ?_
  refine k_get (own := RVE) (ref := RVE) (C := RVE) (T := TVE) (N := 2) (ci := 2) (v := .ref ra) hx hb hW inVE hown hM hv rfl 0 (by decide) (hW _ w_65) (fun _ h => h) rfl dVE_readFrom_23 ?_
  refine lv_iload_n hx hb dVE_readFrom_26 rfl (lv_at hl 0 rfl) ?_
  refine lv_aload_n hx hb dVE_readFrom_27 rfl (lv_at hl 2 rfl) ?_
  refine kc_i (va_runVN (C := RTP) (As := []) (b := ta) (rest := [.int (nI 0), .ref ra]) (Ts := Wd) ⟨hx, hb, hml, hown, hW⟩ (mTP_readNumber l g μ ht hB hb0 (by omega) (by omega)) ⟨(va_cnB 0 hW (k_gC w_153) rfl rfl rfl (hM.2.1.2.1 _ n_150) (hW _ w_2) (by decide +kernel) ⟨Nat.le_of_ble_eq_true rfl, Nat.le_of_ble_eq_true rfl⟩), hW _ w_152, hW _ p_7⟩ (k_preV (q := (RTP, TTP, 6)) hM ht rfl) rfl rfl hl.1 rfl (lv_room (Nat.le_of_ble_eq_true rfl)) dVE_readFrom_28 ⟨Nat.zero_le _, Nat.zero_le _⟩) hM (fun r μ1 H locs hp hM => ?_)
  obtain ⟨rfl, hmu⟩ := hp
  rw [hmu] at hM
  have hM : kS g (km_up μ ta (.inr (1, [.ref ba, .ref sa, .ref oa, .int (nI ln), .int (nI (ai + nD B ai (zi - ai))), .int (nI zi)]))) s H locs := hM
  rcases vNum_cases B (a := ai) (z := zi) (by omega) with ⟨hv1, hr1⟩ | ⟨v1, a1, hv1, hr1, hlt1, ha1, hle1⟩
  · refine topi_eq (y := (-1)) hr1 ?_
    refine lv_i2l (v := (-1)) hx hb dVE_readFrom_31 (by decide) ?_
    refine k_last (i := 0) (f1 := (vp_updL F 0 (-1))) hx hb hM 2 ((km_n (km_apA hr0 ht)).trans hr0) rfl (by omega) (by omega) rfl dVE_readFrom_32 (fun H locs hM => ?_)
    have hM : kS g (km_up (km_up μ ta (.inr (1, [.ref ba, .ref sa, .ref oa, .int (nI ln), .int (nI (ai + nD B ai (zi - ai))), .int (nI zi)]))) ra (.inl (g.2.2.1 2, 7, .inr (.inl (vp_updL F 0 (-1)))))) s H locs := hM
    refine lv_aload_n hx hb dVE_readFrom_33 rfl (lv_at hl 1 rfl) ?_
    refine k_get (own := RVE) (ref := RVE) (C := RVE) (T := TVE) (N := 2) (ci := 2) (v := .ref ra) hx hb hW inVE hown hM ((km_n (km_apB hv hr0)).trans ((km_n (km_apC hv ht (by decide))).trans hv)) rfl 0 (by decide) (hW _ w_65) (fun _ h => h) rfl dVE_readFrom_34 ?_
    refine lv_iload_n hx hb dVE_readFrom_37 rfl (lv_at hl 0 rfl) ?_
    refine k_lald (i := 0) hx hb hM 2 (km_s _ _ _) rfl (by omega) (by omega) dVE_readFrom_38 ?_
    refine topl_eq (y := (-1)) pk_uLs ?_
    refine lv_lconst (v := lN 0) hx hb dVE_readFrom_39 (by decide) ?_
    refine W.lcmp hx hb dVE_readFrom_40 ?_
    refine lv_if_ge (tgt := 46) hx hb dVE_readFrom_41 (by decide) (fun h => absurd h lm1_ge) (fun _ => ?_)
    refine lv_iconst (v := nI 0) hx hb dVE_readFrom_44 (by decide) ?_
    exact kr_z hx hb hr (by decide) hlocks hM dVE_readFrom_45 (⟨_, _, _, (km_id ((km_n (km_apB hv hr0)).trans ((km_n (km_apC hv ht (by decide))).trans hv))).symm, Or.inl ⟨vVer_n3 (by simp only [vThree, hv1, Option.bind_some, Option.bind_none]), rfl⟩⟩)
  · refine topi_eq (y := nI v1) hr1 ?_
    rw [ha1] at hM
    refine lv_i2l (v := lN v1) hx hb dVE_readFrom_31 (nI_l (by omega)) ?_
    refine k_last (i := 0) (f1 := (vp_updL F 0 (lN v1))) hx hb hM 2 ((km_n (km_apA hr0 ht)).trans hr0) rfl (by omega) (by omega) rfl dVE_readFrom_32 (fun H locs hM => ?_)
    have hM : kS g (km_up (km_up μ ta (.inr (1, [.ref ba, .ref sa, .ref oa, .int (nI ln), .int (nI a1), .int (nI zi)]))) ra (.inl (g.2.2.1 2, 7, .inr (.inl (vp_updL F 0 (lN v1)))))) s H locs := hM
    refine lv_aload_n hx hb dVE_readFrom_33 rfl (lv_at hl 1 rfl) ?_
    refine k_get (own := RVE) (ref := RVE) (C := RVE) (T := TVE) (N := 2) (ci := 2) (v := .ref ra) hx hb hW inVE hown hM ((km_n (km_apB hv hr0)).trans ((km_n (km_apC hv ht (by decide))).trans hv)) rfl 0 (by decide) (hW _ w_65) (fun _ h => h) rfl dVE_readFrom_34 ?_
    refine lv_iload_n hx hb dVE_readFrom_37 rfl (lv_at hl 0 rfl) ?_
    refine k_lald (i := 0) hx hb hM 2 (km_s _ _ _) rfl (by omega) (by omega) dVE_readFrom_38 ?_
    refine topl_eq (y := lN v1) pk_uLs ?_
    refine lv_lconst (v := lN 0) hx hb dVE_readFrom_39 (by decide) ?_
    refine W.lcmp hx hb dVE_readFrom_40 ?_
    refine lv_if_ge (tgt := 46) hx hb dVE_readFrom_41 (by decide) (fun h41 => ?_) (fun h41 => ?_)
    · have h41 := (lJ_ge_t (a := v1) (b := 0) (by omega) (by omega)).mp h41
      refine lv_iinc (v := nI 1) (lv' := [(2, .int (nI 1)), (0, .ref va), (1, .ref ta)]) (k := 0) hx hb dVE_readFrom_46 hl rfl (by decide) (by decide) rfl (fun ls hl => ?_)
      refine lv_goto (tgt := 2) hx hb dVE_readFrom_49 (by decide) ?_
      refine lv_iload_n hx hb dVE_readFrom_2 rfl (lv_at hl 0 rfl) ?_
      refine lv_iconst (v := nI 3) hx hb dVE_readFrom_3 (by decide) ?_
      refine lv_icmp_ge (tgt := 52) hx hb dVE_readFrom_4 (by decide) (fun h => absurd h (by decide)) (fun _ => ?_)
      refine lv_iload_n hx hb dVE_readFrom_7 rfl (lv_at hl 0 rfl) ?_
      refine lv_if_le (tgt := 22) hx hb dVE_readFrom_8 (by decide) (fun h => absurd h (by decide)) (fun _ => ?_)
      refine lv_aload_n hx hb dVE_readFrom_11 rfl (lv_at hl 2 rfl) ?_
      refine lv_bipush (v := nI 46) hx hb dVE_readFrom_12 (by decide) ?_
      refine kc_i (va_runVN (C := RTP) (As := [.int (nI 46)]) (b := ta) (rest := []) (Ts := Wd) ⟨hx, hb, hml, hown, hW⟩ (mTP_skip l g (km_up (km_up μ ta (.inr (1, [.ref ba, .ref sa, .ref oa, .int (nI ln), .int (nI a1), .int (nI zi)]))) ra (.inl (g.2.2.1 2, 7, .inr (.inl (vp_updL F 0 (lN v1)))))) ((km_n (km_apB ht hr0)).trans (km_s _ _ _)) hB ((km_n (km_apN hb0 hr0 (by decide))).trans ((km_n (km_apA hb0 ht)).trans hb0)) (ch := 46) (by omega) (by omega) (by omega)) ⟨(va_cnB 1 hW (k_gC w_149) rfl rfl rfl (hM.2.1.2.1 _ n_146) (hW _ w_2) (by decide +kernel) ⟨Nat.le_of_ble_eq_true rfl, Nat.le_of_ble_eq_true rfl⟩), hW _ w_148, hW _ p_6⟩ (k_preV (q := (RTP, TTP, 6)) hM ((km_n (km_apB ht hr0)).trans (km_s _ _ _)) rfl) rfl rfl hl.1 rfl (lv_room (Nat.le_of_ble_eq_true rfl)) dVE_readFrom_14 ⟨Nat.zero_le _, Nat.zero_le _⟩) hM (fun r μ1 H locs hp hM => ?_)
      obtain ⟨rfl, hmu⟩ := hp
      rw [hmu] at hM
      rcases Decidable.em (a1 < zi ∧ B a1 = 46) with hs2 | hs2
      · refine topi_eq (y := nI 1) (bI_t hs2).symm ?_
        rw [if_pos hs2] at hM
        have hd2 := vDot_t hs2
        have hM : kS g (km_up (km_up μ ta (.inr (1, [.ref ba, .ref sa, .ref oa, .int (nI ln), .int (nI (a1 + 1)), .int (nI zi)]))) ra (.inl (g.2.2.1 2, 7, .inr (.inl (vp_updL F 0 (lN v1)))))) s H locs := kS_eq (km_u2 _ _ _ _ (km_apB ht hr0)) hM
        refine lv_if_ne (tgt := 22) hx hb dVE_readFrom_17 (by decide) (fun _ => ?_) (fun h => absurd h (by decide))
        refine lv_aload_n hx hb dVE_readFrom_22 rfl (lv_at hl 1 rfl) ?_
        refine k_get (own := RVE) (ref := RVE) (C := RVE) (T := TVE) (N := 2) (ci := 2) (v := .ref ra) hx hb hW inVE hown hM ((km_n (km_apB hv hr0)).trans ((km_n (km_apC hv ht (by decide))).trans hv)) rfl 0 (by decide) (hW _ w_65) (fun _ h => h) rfl dVE_readFrom_23 ?_
        refine lv_iload_n hx hb dVE_readFrom_26 rfl (lv_at hl 0 rfl) ?_
        refine lv_aload_n hx hb dVE_readFrom_27 rfl (lv_at hl 2 rfl) ?_
        refine kc_i (va_runVN (C := RTP) (As := []) (b := ta) (rest := [.int (nI 1), .ref ra]) (Ts := Wd) ⟨hx, hb, hml, hown, hW⟩ (mTP_readNumber l g (km_up (km_up μ ta (.inr (1, [.ref ba, .ref sa, .ref oa, .int (nI ln), .int (nI (a1 + 1)), .int (nI zi)]))) ra (.inl (g.2.2.1 2, 7, .inr (.inl (vp_updL F 0 (lN v1)))))) ((km_n (km_apB ht hr0)).trans (km_s _ _ _)) hB ((km_n (km_apN hb0 hr0 (by decide))).trans ((km_n (km_apA hb0 ht)).trans hb0)) (by omega) (by omega)) ⟨(va_cnB 0 hW (k_gC w_153) rfl rfl rfl (hM.2.1.2.1 _ n_150) (hW _ w_2) (by decide +kernel) ⟨Nat.le_of_ble_eq_true rfl, Nat.le_of_ble_eq_true rfl⟩), hW _ w_152, hW _ p_7⟩ (k_preV (q := (RTP, TTP, 6)) hM ((km_n (km_apB ht hr0)).trans (km_s _ _ _)) rfl) rfl rfl hl.1 rfl (lv_room (Nat.le_of_ble_eq_true rfl)) dVE_readFrom_28 ⟨Nat.zero_le _, Nat.zero_le _⟩) hM (fun r μ1 H locs hp hM => ?_)
        obtain ⟨rfl, hmu⟩ := hp
        rw [hmu] at hM
        have hM : kS g (km_up (km_up (km_up μ ta (.inr (1, [.ref ba, .ref sa, .ref oa, .int (nI ln), .int (nI (a1 + 1)), .int (nI zi)]))) ra (.inl (g.2.2.1 2, 7, .inr (.inl (vp_updL F 0 (lN v1)))))) ta (.inr (1, [.ref ba, .ref sa, .ref oa, .int (nI ln), .int (nI (a1 + 1 + nD B (a1 + 1) (zi - (a1 + 1)))), .int (nI zi)]))) s H locs := hM
        have hM : kS g (km_up (km_up μ ta (.inr (1, [.ref ba, .ref sa, .ref oa, .int (nI ln), .int (nI (a1 + 1 + nD B (a1 + 1) (zi - (a1 + 1)))), .int (nI zi)]))) ra (.inl (g.2.2.1 2, 7, .inr (.inl (vp_updL F 0 (lN v1)))))) s H locs := kS_eq (km_u2 _ _ _ _ (km_apB ht hr0)) hM
        rcases vNum_cases B (a := a1 + 1) (z := zi) (by omega) with ⟨hv3, hr3⟩ | ⟨v3, a3, hv3, hr3, hlt3, ha3, hle3⟩
        · refine topi_eq (y := (-1)) hr3 ?_
          refine lv_i2l (v := (-1)) hx hb dVE_readFrom_31 (by decide) ?_
          refine k_last (i := 1) (f1 := (vp_updL (vp_updL F 0 (lN v1)) 1 (-1))) hx hb hM 2 (km_s _ _ _) rfl (by omega) (by omega) rfl dVE_readFrom_32 (fun H locs hM => ?_)
          have hM : kS g (km_up (km_up μ ta (.inr (1, [.ref ba, .ref sa, .ref oa, .int (nI ln), .int (nI (a1 + 1 + nD B (a1 + 1) (zi - (a1 + 1)))), .int (nI zi)]))) ra (.inl (g.2.2.1 2, 7, .inr (.inl (vp_updL (vp_updL F 0 (lN v1)) 1 (-1)))))) s H locs := kS_eq (km_u1 _ _ _ _) hM
          refine lv_aload_n hx hb dVE_readFrom_33 rfl (lv_at hl 1 rfl) ?_
          refine k_get (own := RVE) (ref := RVE) (C := RVE) (T := TVE) (N := 2) (ci := 2) (v := .ref ra) hx hb hW inVE hown hM ((km_n (km_apB hv hr0)).trans ((km_n (km_apC hv ht (by decide))).trans hv)) rfl 0 (by decide) (hW _ w_65) (fun _ h => h) rfl dVE_readFrom_34 ?_
          refine lv_iload_n hx hb dVE_readFrom_37 rfl (lv_at hl 0 rfl) ?_
          refine k_lald (i := 1) hx hb hM 2 (km_s _ _ _) rfl (by omega) (by omega) dVE_readFrom_38 ?_
          refine topl_eq (y := (-1)) pk_uLs ?_
          refine lv_lconst (v := lN 0) hx hb dVE_readFrom_39 (by decide) ?_
          refine W.lcmp hx hb dVE_readFrom_40 ?_
          refine lv_if_ge (tgt := 46) hx hb dVE_readFrom_41 (by decide) (fun h => absurd h lm1_ge) (fun _ => ?_)
          refine lv_iconst (v := nI 0) hx hb dVE_readFrom_44 (by decide) ?_
          exact kr_z hx hb hr (by decide) hlocks hM dVE_readFrom_45 (⟨_, _, _, (km_id ((km_n (km_apB hv hr0)).trans ((km_n (km_apC hv ht (by decide))).trans hv))).symm, Or.inl ⟨vVer_n3 (by simp only [vThree, hv1, hd2, hv3, Option.bind_some, Option.bind_none]), rfl⟩⟩)
        · refine topi_eq (y := nI v3) hr3 ?_
          rw [ha3] at hM
          refine lv_i2l (v := lN v3) hx hb dVE_readFrom_31 (nI_l (by omega)) ?_
          refine k_last (i := 1) (f1 := (vp_updL (vp_updL F 0 (lN v1)) 1 (lN v3))) hx hb hM 2 (km_s _ _ _) rfl (by omega) (by omega) rfl dVE_readFrom_32 (fun H locs hM => ?_)
          have hM : kS g (km_up (km_up μ ta (.inr (1, [.ref ba, .ref sa, .ref oa, .int (nI ln), .int (nI a3), .int (nI zi)]))) ra (.inl (g.2.2.1 2, 7, .inr (.inl (vp_updL (vp_updL F 0 (lN v1)) 1 (lN v3)))))) s H locs := kS_eq (km_u1 _ _ _ _) hM
          refine lv_aload_n hx hb dVE_readFrom_33 rfl (lv_at hl 1 rfl) ?_
          refine k_get (own := RVE) (ref := RVE) (C := RVE) (T := TVE) (N := 2) (ci := 2) (v := .ref ra) hx hb hW inVE hown hM ((km_n (km_apB hv hr0)).trans ((km_n (km_apC hv ht (by decide))).trans hv)) rfl 0 (by decide) (hW _ w_65) (fun _ h => h) rfl dVE_readFrom_34 ?_
          refine lv_iload_n hx hb dVE_readFrom_37 rfl (lv_at hl 0 rfl) ?_
          refine k_lald (i := 1) hx hb hM 2 (km_s _ _ _) rfl (by omega) (by omega) dVE_readFrom_38 ?_
          refine topl_eq (y := lN v3) pk_uLs ?_
          refine lv_lconst (v := lN 0) hx hb dVE_readFrom_39 (by decide) ?_
          refine W.lcmp hx hb dVE_readFrom_40 ?_
          refine lv_if_ge (tgt := 46) hx hb dVE_readFrom_41 (by decide) (fun h41 => ?_) (fun h41 => ?_)
          · have h41 := (lJ_ge_t (a := v3) (b := 0) (by omega) (by omega)).mp h41
            refine lv_iinc (v := nI 2) (lv' := [(2, .int (nI 2)), (0, .ref va), (1, .ref ta)]) (k := 0) hx hb dVE_readFrom_46 hl rfl (by decide) (by decide) rfl (fun ls hl => ?_)
            refine lv_goto (tgt := 2) hx hb dVE_readFrom_49 (by decide) ?_
            refine lv_iload_n hx hb dVE_readFrom_2 rfl (lv_at hl 0 rfl) ?_
            refine lv_iconst (v := nI 3) hx hb dVE_readFrom_3 (by decide) ?_
            refine lv_icmp_ge (tgt := 52) hx hb dVE_readFrom_4 (by decide) (fun h => absurd h (by decide)) (fun _ => ?_)
            refine lv_iload_n hx hb dVE_readFrom_7 rfl (lv_at hl 0 rfl) ?_
            refine lv_if_le (tgt := 22) hx hb dVE_readFrom_8 (by decide) (fun h => absurd h (by decide)) (fun _ => ?_)
            refine lv_aload_n hx hb dVE_readFrom_11 rfl (lv_at hl 2 rfl) ?_
            refine lv_bipush (v := nI 46) hx hb dVE_readFrom_12 (by decide) ?_
            refine kc_i (va_runVN (C := RTP) (As := [.int (nI 46)]) (b := ta) (rest := []) (Ts := Wd) ⟨hx, hb, hml, hown, hW⟩ (mTP_skip l g (km_up (km_up μ ta (.inr (1, [.ref ba, .ref sa, .ref oa, .int (nI ln), .int (nI a3), .int (nI zi)]))) ra (.inl (g.2.2.1 2, 7, .inr (.inl (vp_updL (vp_updL F 0 (lN v1)) 1 (lN v3)))))) ((km_n (km_apB ht hr0)).trans (km_s _ _ _)) hB ((km_n (km_apN hb0 hr0 (by decide))).trans ((km_n (km_apA hb0 ht)).trans hb0)) (ch := 46) (by omega) (by omega) (by omega)) ⟨(va_cnB 1 hW (k_gC w_149) rfl rfl rfl (hM.2.1.2.1 _ n_146) (hW _ w_2) (by decide +kernel) ⟨Nat.le_of_ble_eq_true rfl, Nat.le_of_ble_eq_true rfl⟩), hW _ w_148, hW _ p_6⟩ (k_preV (q := (RTP, TTP, 6)) hM ((km_n (km_apB ht hr0)).trans (km_s _ _ _)) rfl) rfl rfl hl.1 rfl (lv_room (Nat.le_of_ble_eq_true rfl)) dVE_readFrom_14 ⟨Nat.zero_le _, Nat.zero_le _⟩) hM (fun r μ1 H locs hp hM => ?_)
            obtain ⟨rfl, hmu⟩ := hp
            rw [hmu] at hM
            rcases Decidable.em (a3 < zi ∧ B a3 = 46) with hs4 | hs4
            · refine topi_eq (y := nI 1) (bI_t hs4).symm ?_
              rw [if_pos hs4] at hM
              have hd4 := vDot_t hs4
              have hM : kS g (km_up (km_up μ ta (.inr (1, [.ref ba, .ref sa, .ref oa, .int (nI ln), .int (nI (a3 + 1)), .int (nI zi)]))) ra (.inl (g.2.2.1 2, 7, .inr (.inl (vp_updL (vp_updL F 0 (lN v1)) 1 (lN v3)))))) s H locs := kS_eq (km_u2 _ _ _ _ (km_apB ht hr0)) hM
              refine lv_if_ne (tgt := 22) hx hb dVE_readFrom_17 (by decide) (fun _ => ?_) (fun h => absurd h (by decide))
              refine lv_aload_n hx hb dVE_readFrom_22 rfl (lv_at hl 1 rfl) ?_
              refine k_get (own := RVE) (ref := RVE) (C := RVE) (T := TVE) (N := 2) (ci := 2) (v := .ref ra) hx hb hW inVE hown hM ((km_n (km_apB hv hr0)).trans ((km_n (km_apC hv ht (by decide))).trans hv)) rfl 0 (by decide) (hW _ w_65) (fun _ h => h) rfl dVE_readFrom_23 ?_
              refine lv_iload_n hx hb dVE_readFrom_26 rfl (lv_at hl 0 rfl) ?_
              refine lv_aload_n hx hb dVE_readFrom_27 rfl (lv_at hl 2 rfl) ?_
              refine kc_i (va_runVN (C := RTP) (As := []) (b := ta) (rest := [.int (nI 2), .ref ra]) (Ts := Wd) ⟨hx, hb, hml, hown, hW⟩ (mTP_readNumber l g (km_up (km_up μ ta (.inr (1, [.ref ba, .ref sa, .ref oa, .int (nI ln), .int (nI (a3 + 1)), .int (nI zi)]))) ra (.inl (g.2.2.1 2, 7, .inr (.inl (vp_updL (vp_updL F 0 (lN v1)) 1 (lN v3)))))) ((km_n (km_apB ht hr0)).trans (km_s _ _ _)) hB ((km_n (km_apN hb0 hr0 (by decide))).trans ((km_n (km_apA hb0 ht)).trans hb0)) (by omega) (by omega)) ⟨(va_cnB 0 hW (k_gC w_153) rfl rfl rfl (hM.2.1.2.1 _ n_150) (hW _ w_2) (by decide +kernel) ⟨Nat.le_of_ble_eq_true rfl, Nat.le_of_ble_eq_true rfl⟩), hW _ w_152, hW _ p_7⟩ (k_preV (q := (RTP, TTP, 6)) hM ((km_n (km_apB ht hr0)).trans (km_s _ _ _)) rfl) rfl rfl hl.1 rfl (lv_room (Nat.le_of_ble_eq_true rfl)) dVE_readFrom_28 ⟨Nat.zero_le _, Nat.zero_le _⟩) hM (fun r μ1 H locs hp hM => ?_)
              obtain ⟨rfl, hmu⟩ := hp
              rw [hmu] at hM
              have hM : kS g (km_up (km_up (km_up μ ta (.inr (1, [.ref ba, .ref sa, .ref oa, .int (nI ln), .int (nI (a3 + 1)), .int (nI zi)]))) ra (.inl (g.2.2.1 2, 7, .inr (.inl (vp_updL (vp_updL F 0 (lN v1)) 1 (lN v3)))))) ta (.inr (1, [.ref ba, .ref sa, .ref oa, .int (nI ln), .int (nI (a3 + 1 + nD B (a3 + 1) (zi - (a3 + 1)))), .int (nI zi)]))) s H locs := hM
              have hM : kS g (km_up (km_up μ ta (.inr (1, [.ref ba, .ref sa, .ref oa, .int (nI ln), .int (nI (a3 + 1 + nD B (a3 + 1) (zi - (a3 + 1)))), .int (nI zi)]))) ra (.inl (g.2.2.1 2, 7, .inr (.inl (vp_updL (vp_updL F 0 (lN v1)) 1 (lN v3)))))) s H locs := kS_eq (km_u2 _ _ _ _ (km_apB ht hr0)) hM
              rcases vNum_cases B (a := a3 + 1) (z := zi) (by omega) with ⟨hv5, hr5⟩ | ⟨v5, a5, hv5, hr5, hlt5, ha5, hle5⟩
              · refine topi_eq (y := (-1)) hr5 ?_
                refine lv_i2l (v := (-1)) hx hb dVE_readFrom_31 (by decide) ?_
                refine k_last (i := 2) (f1 := (vp_updL (vp_updL (vp_updL F 0 (lN v1)) 1 (lN v3)) 2 (-1))) hx hb hM 2 (km_s _ _ _) rfl (by omega) (by omega) rfl dVE_readFrom_32 (fun H locs hM => ?_)
                have hM : kS g (km_up (km_up μ ta (.inr (1, [.ref ba, .ref sa, .ref oa, .int (nI ln), .int (nI (a3 + 1 + nD B (a3 + 1) (zi - (a3 + 1)))), .int (nI zi)]))) ra (.inl (g.2.2.1 2, 7, .inr (.inl (vp_updL (vp_updL (vp_updL F 0 (lN v1)) 1 (lN v3)) 2 (-1)))))) s H locs := kS_eq (km_u1 _ _ _ _) hM
                refine lv_aload_n hx hb dVE_readFrom_33 rfl (lv_at hl 1 rfl) ?_
                refine k_get (own := RVE) (ref := RVE) (C := RVE) (T := TVE) (N := 2) (ci := 2) (v := .ref ra) hx hb hW inVE hown hM ((km_n (km_apB hv hr0)).trans ((km_n (km_apC hv ht (by decide))).trans hv)) rfl 0 (by decide) (hW _ w_65) (fun _ h => h) rfl dVE_readFrom_34 ?_
                refine lv_iload_n hx hb dVE_readFrom_37 rfl (lv_at hl 0 rfl) ?_
                refine k_lald (i := 2) hx hb hM 2 (km_s _ _ _) rfl (by omega) (by omega) dVE_readFrom_38 ?_
                refine topl_eq (y := (-1)) pk_uLs ?_
                refine lv_lconst (v := lN 0) hx hb dVE_readFrom_39 (by decide) ?_
                refine W.lcmp hx hb dVE_readFrom_40 ?_
                refine lv_if_ge (tgt := 46) hx hb dVE_readFrom_41 (by decide) (fun h => absurd h lm1_ge) (fun _ => ?_)
                refine lv_iconst (v := nI 0) hx hb dVE_readFrom_44 (by decide) ?_
                exact kr_z hx hb hr (by decide) hlocks hM dVE_readFrom_45 (⟨_, _, _, (km_id ((km_n (km_apB hv hr0)).trans ((km_n (km_apC hv ht (by decide))).trans hv))).symm, Or.inl ⟨vVer_n3 (by simp only [vThree, hv1, hd2, hv3, hd4, hv5, Option.bind_some, Option.bind_none]), rfl⟩⟩)
              · refine topi_eq (y := nI v5) hr5 ?_
                rw [ha5] at hM
                refine lv_i2l (v := lN v5) hx hb dVE_readFrom_31 (nI_l (by omega)) ?_
                refine k_last (i := 2) (f1 := (vp_updL (vp_updL (vp_updL F 0 (lN v1)) 1 (lN v3)) 2 (lN v5))) hx hb hM 2 (km_s _ _ _) rfl (by omega) (by omega) rfl dVE_readFrom_32 (fun H locs hM => ?_)
                have hM : kS g (km_up (km_up μ ta (.inr (1, [.ref ba, .ref sa, .ref oa, .int (nI ln), .int (nI a5), .int (nI zi)]))) ra (.inl (g.2.2.1 2, 7, .inr (.inl (vp_updL (vp_updL (vp_updL F 0 (lN v1)) 1 (lN v3)) 2 (lN v5)))))) s H locs := kS_eq (km_u1 _ _ _ _) hM
                refine lv_aload_n hx hb dVE_readFrom_33 rfl (lv_at hl 1 rfl) ?_
                refine k_get (own := RVE) (ref := RVE) (C := RVE) (T := TVE) (N := 2) (ci := 2) (v := .ref ra) hx hb hW inVE hown hM ((km_n (km_apB hv hr0)).trans ((km_n (km_apC hv ht (by decide))).trans hv)) rfl 0 (by decide) (hW _ w_65) (fun _ h => h) rfl dVE_readFrom_34 ?_
                refine lv_iload_n hx hb dVE_readFrom_37 rfl (lv_at hl 0 rfl) ?_
                refine k_lald (i := 2) hx hb hM 2 (km_s _ _ _) rfl (by omega) (by omega) dVE_readFrom_38 ?_
                refine topl_eq (y := lN v5) pk_uLs ?_
                refine lv_lconst (v := lN 0) hx hb dVE_readFrom_39 (by decide) ?_
                refine W.lcmp hx hb dVE_readFrom_40 ?_
                refine lv_if_ge (tgt := 46) hx hb dVE_readFrom_41 (by decide) (fun h41 => ?_) (fun h41 => ?_)
                · have h41 := (lJ_ge_t (a := v5) (b := 0) (by omega) (by omega)).mp h41
                  refine lv_iinc (v := nI 3) (lv' := [(2, .int (nI 3)), (0, .ref va), (1, .ref ta)]) (k := 0) hx hb dVE_readFrom_46 hl rfl (by decide) (by decide) rfl (fun ls hl => ?_)
                  refine lv_goto (tgt := 2) hx hb dVE_readFrom_49 (by decide) ?_
                  refine lv_iload_n hx hb dVE_readFrom_2 rfl (lv_at hl 0 rfl) ?_
                  refine lv_iconst (v := nI 3) hx hb dVE_readFrom_3 (by decide) ?_
                  refine lv_icmp_ge (tgt := 52) hx hb dVE_readFrom_4 (by decide) (fun _ => ?_) (fun h => absurd (by decide) h)
                  have h3 : vThree B ai zi = some (v1, v3, v5, a5) := by simp only [vThree, hv1, hd2, hv3, hd4, hv5, Option.bind_some]
                  refine lv_aload_n hx hb dVE_readFrom_52 rfl (lv_at hl 1 rfl) ?_
                  refine kc_v (va_runV (C := RVE) (As := []) (b := va) (rest := []) (Ts := Wd) ⟨hx, hb, hml, hown, hW⟩ (mVE_dropPre l g (km_up (km_up μ ta (.inr (1, [.ref ba, .ref sa, .ref oa, .int (nI ln), .int (nI a5), .int (nI zi)]))) ra (.inl (g.2.2.1 2, 7, .inr (.inl (vp_updL (vp_updL (vp_updL F 0 (lN v1)) 1 (lN v3)) 2 (lN v5)))))) ((km_n (km_apB hv hr0)).trans ((km_n (km_apC hv ht (by decide))).trans hv)) (km_s _ _ _)) (cwV 0 hW (k_gV w_161 w_163 p_9 w_3 w_164) rfl rfl rfl (by decide +kernel) ⟨Nat.le_of_ble_eq_true rfl, Nat.le_of_ble_eq_true rfl⟩) (k_preV (q := (RVE, TVE, 2)) hM ((km_n (km_apB hv hr0)).trans ((km_n (km_apC hv ht (by decide))).trans hv)) rfl) rfl rfl hl.1 rfl (lv_room (Nat.le_of_ble_eq_true rfl)) dVE_readFrom_53 ⟨Nat.zero_le _, Nat.zero_le _⟩) hM (fun μ1 H locs hp hM => ?_)
                  rw [hp] at hM
                  have hM : kS g (km_up (km_up (km_up (km_up μ ta (.inr (1, [.ref ba, .ref sa, .ref oa, .int (nI ln), .int (nI a5), .int (nI zi)]))) ra (.inl (g.2.2.1 2, 7, .inr (.inl (vp_updL (vp_updL (vp_updL F 0 (lN v1)) 1 (lN v3)) 2 (lN v5)))))) va (.inr (2, [.ref ra, .int (nI 0)]))) ra (.inl (g.2.2.1 2, 7, .inr (.inl (dpF (vp_updL (vp_updL (vp_updL F 0 (lN v1)) 1 (lN v3)) 2 (lN v5))))))) s H locs := hM
                  have hM : kS g (km_up (km_up (km_up μ ta (.inr (1, [.ref ba, .ref sa, .ref oa, .int (nI ln), .int (nI a5), .int (nI zi)]))) ra (.inl (g.2.2.1 2, 7, .inr (.inl (dpF (vp_updL (vp_updL (vp_updL F 0 (lN v1)) 1 (lN v3)) 2 (lN v5))))))) va (.inr (2, [.ref ra, .int (nI 0)]))) s H locs := kS_eq (km_u2 _ _ _ _ (km_apA hr0 hv)) hM
                  refine lv_aload_n hx hb dVE_readFrom_56 rfl (lv_at hl 2 rfl) ?_
                  refine kc_i (va_runVN (C := RTP) (As := []) (b := ta) (rest := []) (Ts := Wd) ⟨hx, hb, hml, hown, hW⟩ (mTP_isAtStop l g (km_up (km_up (km_up μ ta (.inr (1, [.ref ba, .ref sa, .ref oa, .int (nI ln), .int (nI a5), .int (nI zi)]))) ra (.inl (g.2.2.1 2, 7, .inr (.inl (dpF (vp_updL (vp_updL (vp_updL F 0 (lN v1)) 1 (lN v3)) 2 (lN v5))))))) va (.inr (2, [.ref ra, .int (nI 0)]))) ((km_n (km_apC ht hv (by decide))).trans ((km_n (km_apB ht hr0)).trans (km_s _ _ _))) (by omega) (by omega)) ⟨(va_cnB 0 hW (k_gC w_170) rfl rfl rfl (hM.2.1.2.1 _ n_167) (hW _ w_2) (by decide +kernel) ⟨Nat.le_of_ble_eq_true rfl, Nat.le_of_ble_eq_true rfl⟩), hW _ w_169, hW _ p_10⟩ (k_preV (q := (RTP, TTP, 6)) hM ((km_n (km_apC ht hv (by decide))).trans ((km_n (km_apB ht hr0)).trans (km_s _ _ _))) rfl) rfl rfl hl.1 rfl (lv_room (Nat.le_of_ble_eq_true rfl)) dVE_readFrom_57 ⟨Nat.zero_le _, Nat.zero_le _⟩) hM (fun r μ1 H locs hp hM => ?_)
                  obtain ⟨rfl, hmu⟩ := hp
                  rw [hmu] at hM
                  rcases Decidable.em (a5 = zi) with hz6 | hz6
                  · refine topi_eq (y := nI 1) (bI_t hz6).symm ?_
                    refine lv_if_ne (tgt := 80) hx hb dVE_readFrom_60 (by decide) (fun _ => ?_) (fun h => absurd h (by decide))
                    refine lv_iconst (v := nI 1) hx hb dVE_readFrom_80 (by decide) ?_
                    refine lv_goto (tgt := 85) hx hb dVE_readFrom_81 (by decide) ?_
                    exact kr_z hx hb hr (by decide) hlocks hM dVE_readFrom_85 (⟨_, _, _, rfl, Or.inr ⟨_, vVer_s h3 hz6, rfl, rfl, fun k hk => (dpF_row k hk).trans (pF0 _ k).symm⟩⟩)
                  · refine topi_eq (y := nI 0) (bI_f hz6).symm ?_
                    refine lv_if_ne (tgt := 80) hx hb dVE_readFrom_60 (by decide) (fun h => absurd (by decide) h) (fun _ => ?_)
                    refine lv_aload_n hx hb dVE_readFrom_63 rfl (lv_at hl 2 rfl) ?_
                    refine lv_bipush (v := nI 45) hx hb dVE_readFrom_64 (by decide) ?_
                    refine kc_i (va_runVN (C := RTP) (As := [.int (nI 45)]) (b := ta) (rest := []) (Ts := Wd) ⟨hx, hb, hml, hown, hW⟩ (mTP_skip l g (km_up (km_up (km_up μ ta (.inr (1, [.ref ba, .ref sa, .ref oa, .int (nI ln), .int (nI a5), .int (nI zi)]))) ra (.inl (g.2.2.1 2, 7, .inr (.inl (dpF (vp_updL (vp_updL (vp_updL F 0 (lN v1)) 1 (lN v3)) 2 (lN v5))))))) va (.inr (2, [.ref ra, .int (nI 0)]))) ((km_n (km_apC ht hv (by decide))).trans ((km_n (km_apB ht hr0)).trans (km_s _ _ _))) hB ((km_n (km_apA hb0 hv)).trans ((km_n (km_apN hb0 hr0 (by decide))).trans ((km_n (km_apA hb0 ht)).trans hb0))) (ch := 45) (by omega) (by omega) (by omega)) ⟨(va_cnB 1 hW (k_gC w_149) rfl rfl rfl (hM.2.1.2.1 _ n_146) (hW _ w_2) (by decide +kernel) ⟨Nat.le_of_ble_eq_true rfl, Nat.le_of_ble_eq_true rfl⟩), hW _ w_148, hW _ p_6⟩ (k_preV (q := (RTP, TTP, 6)) hM ((km_n (km_apC ht hv (by decide))).trans ((km_n (km_apB ht hr0)).trans (km_s _ _ _))) rfl) rfl rfl hl.1 rfl (lv_room (Nat.le_of_ble_eq_true rfl)) dVE_readFrom_66 ⟨Nat.zero_le _, Nat.zero_le _⟩) hM (fun r μ1 H locs hp hM => ?_)
                    obtain ⟨rfl, hmu⟩ := hp
                    rw [hmu] at hM
                    rcases Decidable.em (a5 < zi ∧ B a5 = 45) with hs7 | hs7
                    · refine topi_eq (y := nI 1) (bI_t hs7).symm ?_
                      rw [if_pos hs7] at hM
                      have hd7 := vDot_t hs7
                      have hM : kS g (km_up (km_up (km_up μ ta (.inr (1, [.ref ba, .ref sa, .ref oa, .int (nI ln), .int (nI (a5 + 1)), .int (nI zi)]))) ra (.inl (g.2.2.1 2, 7, .inr (.inl (dpF (vp_updL (vp_updL (vp_updL F 0 (lN v1)) 1 (lN v3)) 2 (lN v5))))))) va (.inr (2, [.ref ra, .int (nI 0)]))) s H locs := kS_eq (km_u3 _ _ _ _ _ (km_apB ht hr0) (km_apC ht hv (by decide))) hM
                      refine lv_if_eq (tgt := 84) hx hb dVE_readFrom_69 (by decide) (fun h => absurd h (by decide)) (fun _ => ?_)
                      refine lv_aload_n hx hb dVE_readFrom_72 rfl (lv_at hl 1 rfl) ?_
                      refine lv_aload_n hx hb dVE_readFrom_73 rfl (lv_at hl 2 rfl) ?_
                      refine kc_i (va_runV (C := RVE) (As := [.ref ta]) (b := va) (rest := []) (Ts := Wd) ⟨hx, hb, hml, hown, hW⟩ (mVE_readPre l g (km_up (km_up (km_up μ ta (.inr (1, [.ref ba, .ref sa, .ref oa, .int (nI ln), .int (nI (a5 + 1)), .int (nI zi)]))) ra (.inl (g.2.2.1 2, 7, .inr (.inl (dpF (vp_updL (vp_updL (vp_updL F 0 (lN v1)) 1 (lN v3)) 2 (lN v5))))))) va (.inr (2, [.ref ra, .int (nI 0)]))) (km_s _ _ _) ((km_n (km_apA hr0 hv)).trans (km_s _ _ _)) ((km_n (km_apC ht hv (by decide))).trans ((km_n (km_apB ht hr0)).trans (km_s _ _ _))) hB ((km_n (km_apA hb0 hv)).trans ((km_n (km_apN hb0 hr0 (by decide))).trans ((km_n (km_apA hb0 ht)).trans hb0))) (by omega) (by omega)) (cwV 1 hW (k_gV w_171 w_173 p_11 w_3 w_174) rfl rfl rfl (by decide +kernel) ⟨Nat.le_of_ble_eq_true rfl, Nat.le_of_ble_eq_true rfl⟩) (k_preV (q := (RVE, TVE, 2)) hM (km_s _ _ _) rfl) rfl rfl hl.1 rfl (lv_room (Nat.le_of_ble_eq_true rfl)) dVE_readFrom_74 ⟨Nat.zero_le _, Nat.zero_le _⟩) hM (fun r μ1 H locs hp hM => ?_)
                      obtain ⟨F8, a8, hmu, hcase⟩ := hp
                      subst hmu
                      have hM : kS g (km_up (km_up (km_up (km_up (km_up (km_up μ ta (.inr (1, [.ref ba, .ref sa, .ref oa, .int (nI ln), .int (nI (a5 + 1)), .int (nI zi)]))) ra (.inl (g.2.2.1 2, 7, .inr (.inl (dpF (vp_updL (vp_updL (vp_updL F 0 (lN v1)) 1 (lN v3)) 2 (lN v5))))))) va (.inr (2, [.ref ra, .int (nI 0)]))) va (.inr (2, [.ref ra, .int (nI (zi - (a5 + 1)))]))) ta (.inr (1, [.ref ba, .ref sa, .ref oa, .int (nI ln), .int (nI a8), .int (nI zi)]))) ra (.inl (g.2.2.1 2, 7, .inr (.inl F8)))) s H locs := hM
                      have hM : kS g (km_up (km_up (km_up (km_up (km_up μ ta (.inr (1, [.ref ba, .ref sa, .ref oa, .int (nI ln), .int (nI (a5 + 1)), .int (nI zi)]))) ra (.inl (g.2.2.1 2, 7, .inr (.inl (dpF (vp_updL (vp_updL (vp_updL F 0 (lN v1)) 1 (lN v3)) 2 (lN v5))))))) va (.inr (2, [.ref ra, .int (nI (zi - (a5 + 1)))]))) ta (.inr (1, [.ref ba, .ref sa, .ref oa, .int (nI ln), .int (nI a8), .int (nI zi)]))) ra (.inl (g.2.2.1 2, 7, .inr (.inl F8)))) s H locs := kS_eq (congrArg (fun z => km_up z ra (.inl (g.2.2.1 2, 7, .inr (.inl F8)))) (congrArg (fun z => km_up z ta (.inr (1, [.ref ba, .ref sa, .ref oa, .int (nI ln), .int (nI a8), .int (nI zi)]))) (km_u1 _ _ _ _))) hM
                      have hM : kS g (km_up (km_up (km_up (km_up μ ta (.inr (1, [.ref ba, .ref sa, .ref oa, .int (nI ln), .int (nI a8), .int (nI zi)]))) ra (.inl (g.2.2.1 2, 7, .inr (.inl (dpF (vp_updL (vp_updL (vp_updL F 0 (lN v1)) 1 (lN v3)) 2 (lN v5))))))) va (.inr (2, [.ref ra, .int (nI (zi - (a5 + 1)))]))) ra (.inl (g.2.2.1 2, 7, .inr (.inl F8)))) s H locs := kS_eq (congrArg (fun z => km_up z ra (.inl (g.2.2.1 2, 7, .inr (.inl F8)))) (km_u3 _ _ _ _ _ (km_apB ht hr0) (km_apC ht hv (by decide)))) hM
                      have hM : kS g (km_up (km_up (km_up μ ta (.inr (1, [.ref ba, .ref sa, .ref oa, .int (nI ln), .int (nI a8), .int (nI zi)]))) ra (.inl (g.2.2.1 2, 7, .inr (.inl F8)))) va (.inr (2, [.ref ra, .int (nI (zi - (a5 + 1)))]))) s H locs := kS_eq (km_u2 _ _ _ _ (km_apA hr0 hv)) hM
                      rcases hcase with ⟨hp8, rfl⟩ | ⟨ms, hp8, rfl, hz9, hF⟩
                      · skip
                        refine lv_if_eq (tgt := 84) hx hb dVE_readFrom_77 (by decide) (fun _ => ?_) (fun h => absurd (by decide) h)
                        refine lv_iconst (v := nI 0) hx hb dVE_readFrom_84 (by decide) ?_
                        exact kr_z hx hb hr (by decide) hlocks hM dVE_readFrom_85 (⟨_, _, _, rfl, Or.inl ⟨by rw [vVer_p h3 hz6 hd7, hp8]; rfl, rfl⟩⟩)
                      · rw [hz9] at hM
                        refine lv_if_eq (tgt := 84) hx hb dVE_readFrom_77 (by decide) (fun h => absurd h (by decide)) (fun _ => ?_)
                        refine lv_iconst (v := nI 1) hx hb dVE_readFrom_80 (by decide) ?_
                        refine lv_goto (tgt := 85) hx hb dVE_readFrom_81 (by decide) ?_
                        exact kr_z hx hb hr (by decide) hlocks hM dVE_readFrom_85 (⟨_, _, _, rfl, Or.inr ⟨(v1, v3, v5, ms), by rw [vVer_p h3 hz6 hd7, hp8]; rfl, rfl, (vPre_len B zi 4 _ ms (by omega) hp8).2.2.1, fun k hk => (hF k hk).trans (pF_congr ms dpF_row k hk)⟩⟩)
                    · refine topi_eq (y := nI 0) (bI_f hs7).symm ?_
                      rw [if_neg hs7] at hM
                      have hd7 := vDot_f hs7
                      refine lv_if_eq (tgt := 84) hx hb dVE_readFrom_69 (by decide) (fun _ => ?_) (fun h => absurd (by decide) h)
                      refine lv_iconst (v := nI 0) hx hb dVE_readFrom_84 (by decide) ?_
                      exact kr_z hx hb hr (by decide) hlocks hM dVE_readFrom_85 (⟨_, _, _, rfl, Or.inl ⟨vVer_d h3 hz6 hd7, rfl⟩⟩)
                · have h41 := (lJ_ge_f (a := v5) (b := 0) (by omega) (by omega)).mp h41
                  exact absurd h41 (Nat.not_lt_zero _)
            · refine topi_eq (y := nI 0) (bI_f hs4).symm ?_
              rw [if_neg hs4] at hM
              have hd4 := vDot_f hs4
              refine lv_if_ne (tgt := 22) hx hb dVE_readFrom_17 (by decide) (fun h => absurd (by decide) h) (fun _ => ?_)
              refine lv_iconst (v := nI 0) hx hb dVE_readFrom_20 (by decide) ?_
              exact kr_z hx hb hr (by decide) hlocks hM dVE_readFrom_21 (⟨_, _, _, (km_id ((km_n (km_apB hv hr0)).trans ((km_n (km_apC hv ht (by decide))).trans hv))).symm, Or.inl ⟨vVer_n3 (by simp only [vThree, hv1, hd2, hv3, hd4, Option.bind_some, Option.bind_none]), rfl⟩⟩)
          · have h41 := (lJ_ge_f (a := v3) (b := 0) (by omega) (by omega)).mp h41
            exact absurd h41 (Nat.not_lt_zero _)
      · refine topi_eq (y := nI 0) (bI_f hs2).symm ?_
        rw [if_neg hs2] at hM
        have hd2 := vDot_f hs2
        refine lv_if_ne (tgt := 22) hx hb dVE_readFrom_17 (by decide) (fun h => absurd (by decide) h) (fun _ => ?_)
        refine lv_iconst (v := nI 0) hx hb dVE_readFrom_20 (by decide) ?_
        exact kr_z hx hb hr (by decide) hlocks hM dVE_readFrom_21 (⟨_, _, _, (km_id ((km_n (km_apB hv hr0)).trans ((km_n (km_apC hv ht (by decide))).trans hv))).symm, Or.inl ⟨vVer_n3 (by simp only [vThree, hv1, hd2, Option.bind_some, Option.bind_none]), rfl⟩⟩)
    · have h41 := (lJ_ge_f (a := v1) (b := 0) (by omega) (by omega)).mp h41
      exact absurd h41 (Nat.not_lt_zero _)
end
section
-- more rows: arrays copied, enum constants
theorem km_u5 (μ : km_M) {a b c d f : Nat} (e e' e2 e3 e4 e5 : va_E) (h : a ≠ b) (h2 : a ≠ c) (h3 : a ≠ d) (h4 : a ≠ f) : km_up (km_up (km_up (km_up (km_up (km_up μ a e) b e2) c e3) d e4) f e5) a e' = km_up (km_up (km_up (km_up (km_up μ a e') b e2) c e3) d e4) f e5 := by
  rw [km_uc (km_up (km_up (km_up (km_up μ a e) b e2) c e3) d e4) e5 e' (Ne.symm h4), km_u4 μ e e' e2 e3 e4 h h2 h3]
theorem km_u6 (μ : km_M) {a b c d f i : Nat} (e e' e2 e3 e4 e5 e6 : va_E) (h : a ≠ b) (h2 : a ≠ c) (h3 : a ≠ d) (h4 : a ≠ f) (h5 : a ≠ i) : km_up (km_up (km_up (km_up (km_up (km_up (km_up μ a e) b e2) c e3) d e4) f e5) i e6) a e' = km_up (km_up (km_up (km_up (km_up (km_up μ a e') b e2) c e3) d e4) f e5) i e6 := by
  rw [km_uc (km_up (km_up (km_up (km_up (km_up μ a e) b e2) c e3) d e4) f e5) e6 e' (Ne.symm h5), km_u5 μ e e' e2 e3 e4 e5 h h2 h3 h4]
section KW2
variable {p : Program} {l : Launch} {e : Env} {R : Room} {s : State} {m : MethodId} {args : Array Value} {below : List Frame} {meth : Method} {c : Code} {H : Heap} {locs : List Loc} {cells slots : Nat} {Q : State → Prop}
variable {cc : ByteArray} {pc : Nat} {ls : Array Slot} {rest : List Value} {g : kG} {μ : km_M} {a : Nat}
theorem k_copyl (hx : p.tables.exec = Jvm.exec) (hb : c.code = cc) (hml : c.maxLocals = ls.size) {own : String} {index : Nat} (hown : s.vm.findClass own = some m.cls) (hlink : (Cond.methodLink own index arraycopyName).before args s = true) (hnat : (Cond.native arraycopyName).before args s = true) (hstat : (Cond.static arraycopyName).before args s = true) (hini : (Cond.initialized "java/lang/System").before args s = true)
    (hM : kS g μ s H locs) (t0 : Nat) {a0 : Nat} {cA : ClassId} {n0 n1 : Nat} {f h f1 : Nat → Int64} (ha0 : μ a0 = some (.inl (cA, n0, .inr (.inl f)))) (ha1 : μ a = some (.inl (cA, n1, .inr (.inl h)))) (ht : (ktys g)[t0]? = some (cA, .long))
    {sp dp n : Nat} (h4 : sp + n ≤ n0) (h5 : dp + n ≤ n1) (h0 : n0 < 2 ^ 31) (h1 : n1 < 2 ^ 31) (hframes : 1 ≤ R.frames) (hlocals : (rest.map fun v => v.category).sum + (nativeFrameWords "java/lang/System" "arraycopy" 5 + 11) ≤ R.locals) (hdg : decode cc pc = .ok (.invokestatic index, 3)) (hf : va_cpy f h sp dp n = f1)
    (kk : ∀ (H1 : Heap) (locs1 : List Loc), kS g (km_up μ a (.inl (cA, n1, .inr (.inl f1)))) s H1 locs1 → W p l e R s m args below meth c H1 locs1 cells slots Q (F0 m (pc + 3) ls rest)) : W p l e R s m args below meth c H locs cells slots Q (F0 m pc ls (.int (nI n) :: .int (nI dp) :: .ref a :: .int (nI sp) :: .ref a0 :: rest)) := by
  subst hf
  obtain ⟨ws, hP, hD, hr⟩ := hM.2.2.1
  obtain ⟨q0, hq0⟩ := (hr _ _).mp ha0
  obtain ⟨q1, hq1⟩ := (hr _ _).mp ha1
  have e1 : (nI sp).toNatClampNeg = sp := nI_clamp (by omega)
  have e2 : (nI dp).toNatClampNeg = dp := nI_clamp (by omega)
  have e3 : (nI n).toNatClampNeg = n := nI_clamp (by omega)
  refine va_copyl hx hb hml hown hlink hnat hstat hini hM.2.1.1 hP hD hM.2.2.2 q0 q1 t0 t0 hq0 hq1 ht ht rfl (nI_pos (by omega)) (nI_pos (by omega)) (nI_pos (by omega)) (by rw [e1, e3]; exact h4) (by rw [e2, e3]; exact h5) (fun _ _ => rfl) hframes hlocals hdg (fun H1 locs1 hP1 hD1 hS1 => kk H1 locs1 (hM.set hD hr hq1 ?_ ?_ hS1))
  · rw [e1, e2, e3] at hP1
    exact hP1
  · rw [e1, e2, e3] at hD1
    exact hD1
theorem k_preE {i : Nat} {As : List Value} (hM : kS g μ s H locs) (hi : i < 8) : PreV s H "VersionRanges$Sign" (g.2.2.2.1 i) (kPre g μ (.ref (g.2.2.2.1 i) :: As)) As :=
  ⟨kPre_blind, va_recvE hM.2.1.2.2.1 hi hM.2.2.2, (k_preS hM).2⟩
theorem k_enum {i j : Nat} (hM : kS g μ s H locs) (hi : i < 8) (hj : j < 8) (h : some (g.2.2.2.1 i) = some (g.2.2.2.1 j)) : i = j := hM.2.1.2.2.1.2 i j hi hj (Option.some.inj h)
end KW2
/-- whether a sign has an order: the enum's three fields -/
def enB (i : Nat) : Int32 := ([1, 0, 1, 1, 0, 0, 0, 0] : List Int32).getD i 0
def enS (i : Nat) : Int32 := ([1, 1, 0, 1, 0, 1, 1, 1] : List Int32).getD i 0
def enA (i : Nat) : Int32 := ([1, 0, 0, 0, 1, 1, 1, 1] : List Int32).getD i 0
theorem en_nar : ∀ i, i < 8 → narrow .boolean (.int (enB i)) = .int (enB i) ∧ narrow .boolean (.int (enS i)) = .int (enS i) ∧ narrow .boolean (.int (enA i)) = .int (enA i) := by decide +kernel
def enO (i : Nat) (x : Int32) : Int32 := if 0 ≤ x then (if x ≤ 0 then enS i else enA i) else enB i
/-- the sign at a word's beginning, and where what is behind it begins -/
def sgP (B : Nat → Nat) (a z : Nat) : Nat × Nat :=
  if a < z ∧ B a = 42 then (0, a + 1) else if a < z ∧ B a = 60 then (if a + 1 < z ∧ B (a + 1) = 61 then (3, a + 1 + 1) else (2, a + 1))
  else if a < z ∧ B a = 62 then (if a + 1 < z ∧ B (a + 1) = 61 then (5, a + 1 + 1) else (4, a + 1)) else if a < z ∧ B a = 94 then (6, a + 1) else if a < z ∧ B a = 126 then (7, a + 1)
  else if a < z ∧ B a = 61 then (1, a + 1) else (1, a)
theorem sgP_b (B : Nat → Nat) {a z : Nat} (h : a ≤ z) : (sgP B a z).1 < 8 ∧ (sgP B a z).2 ≤ z := by
  unfold sgP
  repeat' split
  all_goals (simp only; omega)
/-- the three numbers of a ceiling -/
def ceT (k x y w : Nat) : Nat × Nat × Nat := if k = 7 then (x, y + 1, 0) else if 0 < x then (x + 1, 0, 0) else if 0 < y then (0, y + 1, 0) else (0, 0, w + 1)
def n3F (G : Nat → Int64) (q : Nat × Nat × Nat) : Nat → Int64 := dpF (vp_updL (vp_updL (vp_updL G 0 (lN q.1)) 1 (lN q.2.1)) 2 (lN q.2.2))
theorem dVR_init_0 : decode cVR_init 0 = .ok (.aload_n 0, 1) := by decide +kernel
theorem dVR_init_1 : decode cVR_init 1 = .ok (.invokespecial 1, 3) := by decide +kernel
theorem dVR_init_4 : decode cVR_init 4 = .ok (.aload_n 0, 1) := by decide +kernel
theorem dVR_init_5 : decode cVR_init 5 = .ok (.new 7, 3) := by decide +kernel
theorem dVR_init_8 : decode cVR_init 8 = .ok (.dup, 1) := by decide +kernel
theorem dVR_init_9 : decode cVR_init 9 = .ok (.invokespecial 9, 3) := by decide +kernel
theorem dVR_init_12 : decode cVR_init 12 = .ok (.putfield 10, 3) := by decide +kernel
theorem dVR_init_15 : decode cVR_init 15 = .ok (.aload_n 0, 1) := by decide +kernel
theorem dVR_init_16 : decode cVR_init 16 = .ok (.bipush 12, 2) := by decide +kernel
theorem dVR_init_18 : decode cVR_init 18 = .ok (.anewarray 16, 3) := by decide +kernel
theorem dVR_init_21 : decode cVR_init 21 = .ok (.putfield 18, 3) := by decide +kernel
theorem dVR_init_24 : decode cVR_init 24 = .ok (.iconst 0, 1) := by decide +kernel
theorem dVR_init_25 : decode cVR_init 25 = .ok (.istore_n 1, 1) := by decide +kernel
theorem dVR_init_26 : decode cVR_init 26 = .ok (.iload_n 1, 1) := by decide +kernel
theorem dVR_init_27 : decode cVR_init 27 = .ok (.bipush 12, 2) := by decide +kernel
theorem dVR_init_29 : decode cVR_init 29 = .ok (.if_icmp .ge 22, 3) := by decide +kernel
theorem dVR_init_32 : decode cVR_init 32 = .ok (.aload_n 0, 1) := by decide +kernel
theorem dVR_init_33 : decode cVR_init 33 = .ok (.getfield 18, 3) := by decide +kernel
theorem dVR_init_36 : decode cVR_init 36 = .ok (.iload_n 1, 1) := by decide +kernel
theorem dVR_init_37 : decode cVR_init 37 = .ok (.new 16, 3) := by decide +kernel
theorem dVR_init_40 : decode cVR_init 40 = .ok (.dup, 1) := by decide +kernel
theorem dVR_init_41 : decode cVR_init 41 = .ok (.invokespecial 22, 3) := by decide +kernel
theorem dVR_init_44 : decode cVR_init 44 = .ok (.aastore, 1) := by decide +kernel
theorem dVR_init_45 : decode cVR_init 45 = .ok (.iinc 1 1, 3) := by decide +kernel
theorem dVR_init_48 : decode cVR_init 48 = .ok (.goto (-22), 3) := by decide +kernel
theorem dVR_init_51 : decode cVR_init 51 = .ok (.aload_n 0, 1) := by decide +kernel
theorem dVR_init_52 : decode cVR_init 52 = .ok (.new 16, 3) := by decide +kernel
theorem dVR_init_55 : decode cVR_init 55 = .ok (.dup, 1) := by decide +kernel
theorem dVR_init_56 : decode cVR_init 56 = .ok (.invokespecial 22, 3) := by decide +kernel
theorem dVR_init_59 : decode cVR_init 59 = .ok (.putfield 23, 3) := by decide +kernel
theorem dVR_init_62 : decode cVR_init 62 = .ok (.aload_n 0, 1) := by decide +kernel
theorem dVR_init_63 : decode cVR_init 63 = .ok (.new 27, 3) := by decide +kernel
theorem dVR_init_66 : decode cVR_init 66 = .ok (.dup, 1) := by decide +kernel
theorem dVR_init_67 : decode cVR_init 67 = .ok (.invokespecial 29, 3) := by decide +kernel
theorem dVR_init_70 : decode cVR_init 70 = .ok (.putfield 30, 3) := by decide +kernel
theorem dVR_init_73 : decode cVR_init 73 = .ok (.aload_n 0, 1) := by decide +kernel
theorem dVR_init_74 : decode cVR_init 74 = .ok (.iconst 0, 1) := by decide +kernel
theorem dVR_init_75 : decode cVR_init 75 = .ok (.putfield 34, 3) := by decide +kernel
theorem dVR_init_78 : decode cVR_init 78 = .ok (.return_, 1) := by decide +kernel
theorem dVR_feed_0 : decode cVR_feed 0 = .ok (.aload_n 0, 1) := by decide +kernel
theorem dVR_feed_1 : decode cVR_feed 1 = .ok (.getfield 10, 3) := by decide +kernel
theorem dVR_feed_4 : decode cVR_feed 4 = .ok (.bipush 20, 2) := by decide +kernel
theorem dVR_feed_6 : decode cVR_feed 6 = .ok (.invokevirtual 38, 3) := by decide +kernel
theorem dVR_feed_9 : decode cVR_feed 9 = .ok (.ifCond .ne 6, 3) := by decide +kernel
theorem dVR_feed_12 : decode cVR_feed 12 = .ok (.bipush (-3), 2) := by decide +kernel
theorem dVR_feed_14 : decode cVR_feed 14 = .ok (.ireturn, 1) := by decide +kernel
theorem dVR_feed_15 : decode cVR_feed 15 = .ok (.aload_n 0, 1) := by decide +kernel
theorem dVR_feed_16 : decode cVR_feed 16 = .ok (.getfield 10, 3) := by decide +kernel
theorem dVR_feed_19 : decode cVR_feed 19 = .ok (.iload_n 1, 1) := by decide +kernel
theorem dVR_feed_20 : decode cVR_feed 20 = .ok (.invokevirtual 42, 3) := by decide +kernel
theorem dVR_feed_23 : decode cVR_feed 23 = .ok (.aload_n 0, 1) := by decide +kernel
theorem dVR_feed_24 : decode cVR_feed 24 = .ok (.getfield 10, 3) := by decide +kernel
theorem dVR_feed_27 : decode cVR_feed 27 = .ok (.iload_n 2, 1) := by decide +kernel
theorem dVR_feed_28 : decode cVR_feed 28 = .ok (.invokevirtual 42, 3) := by decide +kernel
theorem dVR_feed_31 : decode cVR_feed 31 = .ok (.aload_n 0, 1) := by decide +kernel
theorem dVR_feed_32 : decode cVR_feed 32 = .ok (.getfield 10, 3) := by decide +kernel
theorem dVR_feed_35 : decode cVR_feed 35 = .ok (.iload_n 3, 1) := by decide +kernel
theorem dVR_feed_36 : decode cVR_feed 36 = .ok (.invokevirtual 42, 3) := by decide +kernel
theorem dVR_feed_39 : decode cVR_feed 39 = .ok (.aload_n 0, 1) := by decide +kernel
theorem dVR_feed_40 : decode cVR_feed 40 = .ok (.getfield 10, 3) := by decide +kernel
theorem dVR_feed_43 : decode cVR_feed 43 = .ok (.iload 4, 2) := by decide +kernel
theorem dVR_feed_45 : decode cVR_feed 45 = .ok (.invokevirtual 42, 3) := by decide +kernel
theorem dVR_feed_48 : decode cVR_feed 48 = .ok (.aload_n 0, 1) := by decide +kernel
theorem dVR_feed_49 : decode cVR_feed 49 = .ok (.getfield 10, 3) := by decide +kernel
theorem dVR_feed_52 : decode cVR_feed 52 = .ok (.iload 5, 2) := by decide +kernel
theorem dVR_feed_54 : decode cVR_feed 54 = .ok (.invokevirtual 42, 3) := by decide +kernel
theorem dVR_feed_57 : decode cVR_feed 57 = .ok (.aload_n 0, 1) := by decide +kernel
theorem dVR_feed_58 : decode cVR_feed 58 = .ok (.getfield 10, 3) := by decide +kernel
theorem dVR_feed_61 : decode cVR_feed 61 = .ok (.getfield 46, 3) := by decide +kernel
theorem dVR_feed_64 : decode cVR_feed 64 = .ok (.ireturn, 1) := by decide +kernel
theorem dVR_end_0 : decode cVR_end 0 = .ok (.iload_n 1, 1) := by decide +kernel
theorem dVR_end_1 : decode cVR_end 1 = .ok (.ifCond .lt 14, 3) := by decide +kernel
theorem dVR_end_4 : decode cVR_end 4 = .ok (.iload_n 1, 1) := by decide +kernel
theorem dVR_end_5 : decode cVR_end 5 = .ok (.aload_n 0, 1) := by decide +kernel
theorem dVR_end_6 : decode cVR_end 6 = .ok (.getfield 10, 3) := by decide +kernel
theorem dVR_end_9 : decode cVR_end 9 = .ok (.getfield 46, 3) := by decide +kernel
theorem dVR_end_12 : decode cVR_end 12 = .ok (.if_icmp .le 5, 3) := by decide +kernel
theorem dVR_end_15 : decode cVR_end 15 = .ok (.iconst (-1), 1) := by decide +kernel
theorem dVR_end_16 : decode cVR_end 16 = .ok (.ireturn, 1) := by decide +kernel
theorem dVR_end_17 : decode cVR_end 17 = .ok (.aload_n 0, 1) := by decide +kernel
theorem dVR_end_18 : decode cVR_end 18 = .ok (.getfield 10, 3) := by decide +kernel
theorem dVR_end_21 : decode cVR_end 21 = .ok (.iload_n 1, 1) := by decide +kernel
theorem dVR_end_22 : decode cVR_end 22 = .ok (.putfield 46, 3) := by decide +kernel
theorem dVR_end_25 : decode cVR_end 25 = .ok (.iload_n 1, 1) := by decide +kernel
theorem dVR_end_26 : decode cVR_end 26 = .ok (.ireturn, 1) := by decide +kernel
theorem dVR_take_0 : decode cVR_take 0 = .ok (.aload_n 0, 1) := by decide +kernel
theorem dVR_take_1 : decode cVR_take 1 = .ok (.invokevirtual 49, 3) := by decide +kernel
theorem dVR_take_4 : decode cVR_take 4 = .ok (.istore_n 1, 1) := by decide +kernel
theorem dVR_take_5 : decode cVR_take 5 = .ok (.aload_n 0, 1) := by decide +kernel
theorem dVR_take_6 : decode cVR_take 6 = .ok (.getfield 10, 3) := by decide +kernel
theorem dVR_take_9 : decode cVR_take 9 = .ok (.iconst 0, 1) := by decide +kernel
theorem dVR_take_10 : decode cVR_take 10 = .ok (.putfield 46, 3) := by decide +kernel
theorem dVR_take_13 : decode cVR_take 13 = .ok (.iload_n 1, 1) := by decide +kernel
theorem dVR_take_14 : decode cVR_take 14 = .ok (.ireturn, 1) := by decide +kernel
theorem dVR_compare_0 : decode cVR_compare 0 = .ok (.aload_n 0, 1) := by decide +kernel
theorem dVR_compare_1 : decode cVR_compare 1 = .ok (.iload_n 1, 1) := by decide +kernel
theorem dVR_compare_2 : decode cVR_compare 2 = .ok (.invokevirtual 53, 3) := by decide +kernel
theorem dVR_compare_5 : decode cVR_compare 5 = .ok (.ifCond .eq 11, 3) := by decide +kernel
theorem dVR_compare_8 : decode cVR_compare 8 = .ok (.aload_n 0, 1) := by decide +kernel
theorem dVR_compare_9 : decode cVR_compare 9 = .ok (.iload_n 2, 1) := by decide +kernel
theorem dVR_compare_10 : decode cVR_compare 10 = .ok (.invokevirtual 53, 3) := by decide +kernel
theorem dVR_compare_13 : decode cVR_compare 13 = .ok (.ifCond .ne 6, 3) := by decide +kernel
theorem dVR_compare_16 : decode cVR_compare 16 = .ok (.bipush (-2), 2) := by decide +kernel
theorem dVR_compare_18 : decode cVR_compare 18 = .ok (.ireturn, 1) := by decide +kernel
theorem dVR_compare_19 : decode cVR_compare 19 = .ok (.aload_n 0, 1) := by decide +kernel
theorem dVR_compare_20 : decode cVR_compare 20 = .ok (.getfield 18, 3) := by decide +kernel
theorem dVR_compare_23 : decode cVR_compare 23 = .ok (.iload_n 1, 1) := by decide +kernel
theorem dVR_compare_24 : decode cVR_compare 24 = .ok (.aaload, 1) := by decide +kernel
theorem dVR_compare_25 : decode cVR_compare 25 = .ok (.aload_n 0, 1) := by decide +kernel
theorem dVR_compare_26 : decode cVR_compare 26 = .ok (.getfield 18, 3) := by decide +kernel
theorem dVR_compare_29 : decode cVR_compare 29 = .ok (.iload_n 2, 1) := by decide +kernel
theorem dVR_compare_30 : decode cVR_compare 30 = .ok (.aaload, 1) := by decide +kernel
theorem dVR_compare_31 : decode cVR_compare 31 = .ok (.invokevirtual 56, 3) := by decide +kernel
theorem dVR_compare_34 : decode cVR_compare 34 = .ok (.ireturn, 1) := by decide +kernel
theorem dVR_part_0 : decode cVR_part 0 = .ok (.iload_n 2, 1) := by decide +kernel
theorem dVR_part_1 : decode cVR_part 1 = .ok (.ifCond .lt 8, 3) := by decide +kernel
theorem dVR_part_4 : decode cVR_part 4 = .ok (.iload_n 2, 1) := by decide +kernel
theorem dVR_part_5 : decode cVR_part 5 = .ok (.iconst 3, 1) := by decide +kernel
theorem dVR_part_6 : decode cVR_part 6 = .ok (.if_icmp .le 5, 3) := by decide +kernel
theorem dVR_part_9 : decode cVR_part 9 = .ok (.iconst (-1), 1) := by decide +kernel
theorem dVR_part_10 : decode cVR_part 10 = .ok (.ireturn, 1) := by decide +kernel
theorem dVR_part_11 : decode cVR_part 11 = .ok (.aload_n 0, 1) := by decide +kernel
theorem dVR_part_12 : decode cVR_part 12 = .ok (.iload_n 1, 1) := by decide +kernel
theorem dVR_part_13 : decode cVR_part 13 = .ok (.invokevirtual 53, 3) := by decide +kernel
theorem dVR_part_16 : decode cVR_part 16 = .ok (.ifCond .ne 6, 3) := by decide +kernel
theorem dVR_part_19 : decode cVR_part 19 = .ok (.bipush (-2), 2) := by decide +kernel
theorem dVR_part_21 : decode cVR_part 21 = .ok (.ireturn, 1) := by decide +kernel
theorem dVR_part_22 : decode cVR_part 22 = .ok (.iload_n 2, 1) := by decide +kernel
theorem dVR_part_23 : decode cVR_part 23 = .ok (.iconst 3, 1) := by decide +kernel
theorem dVR_part_24 : decode cVR_part 24 = .ok (.if_icmp .ne 15, 3) := by decide +kernel
theorem dVR_part_27 : decode cVR_part 27 = .ok (.aload_n 0, 1) := by decide +kernel
theorem dVR_part_28 : decode cVR_part 28 = .ok (.getfield 18, 3) := by decide +kernel
theorem dVR_part_31 : decode cVR_part 31 = .ok (.iload_n 1, 1) := by decide +kernel
theorem dVR_part_32 : decode cVR_part 32 = .ok (.aaload, 1) := by decide +kernel
theorem dVR_part_33 : decode cVR_part 33 = .ok (.getfield 60, 3) := by decide +kernel
theorem dVR_part_36 : decode cVR_part 36 = .ok (.goto 13, 3) := by decide +kernel
theorem dVR_part_39 : decode cVR_part 39 = .ok (.aload_n 0, 1) := by decide +kernel
theorem dVR_part_40 : decode cVR_part 40 = .ok (.getfield 18, 3) := by decide +kernel
theorem dVR_part_43 : decode cVR_part 43 = .ok (.iload_n 1, 1) := by decide +kernel
theorem dVR_part_44 : decode cVR_part 44 = .ok (.aaload, 1) := by decide +kernel
theorem dVR_part_45 : decode cVR_part 45 = .ok (.iload_n 2, 1) := by decide +kernel
theorem dVR_part_46 : decode cVR_part 46 = .ok (.invokevirtual 63, 3) := by decide +kernel
theorem dVR_part_49 : decode cVR_part 49 = .ok (.ireturn, 1) := by decide +kernel
theorem dVR_rank_0 : decode cVR_rank 0 = .ok (.aload_n 0, 1) := by decide +kernel
theorem dVR_rank_1 : decode cVR_rank 1 = .ok (.iload_n 1, 1) := by decide +kernel
theorem dVR_rank_2 : decode cVR_rank 2 = .ok (.invokevirtual 53, 3) := by decide +kernel
theorem dVR_rank_5 : decode cVR_rank 5 = .ok (.ifCond .ne 6, 3) := by decide +kernel
theorem dVR_rank_8 : decode cVR_rank 8 = .ok (.bipush (-2), 2) := by decide +kernel
theorem dVR_rank_10 : decode cVR_rank 10 = .ok (.ireturn, 1) := by decide +kernel
theorem dVR_rank_11 : decode cVR_rank 11 = .ok (.iconst 0, 1) := by decide +kernel
theorem dVR_rank_12 : decode cVR_rank 12 = .ok (.istore_n 2, 1) := by decide +kernel
theorem dVR_rank_13 : decode cVR_rank 13 = .ok (.iconst 0, 1) := by decide +kernel
theorem dVR_rank_14 : decode cVR_rank 14 = .ok (.istore_n 3, 1) := by decide +kernel
theorem dVR_rank_15 : decode cVR_rank 15 = .ok (.iload_n 3, 1) := by decide +kernel
theorem dVR_rank_16 : decode cVR_rank 16 = .ok (.aload_n 0, 1) := by decide +kernel
theorem dVR_rank_17 : decode cVR_rank 17 = .ok (.getfield 34, 3) := by decide +kernel
theorem dVR_rank_20 : decode cVR_rank 20 = .ok (.if_icmp .ge 30, 3) := by decide +kernel
theorem dVR_rank_23 : decode cVR_rank 23 = .ok (.aload_n 0, 1) := by decide +kernel
theorem dVR_rank_24 : decode cVR_rank 24 = .ok (.getfield 18, 3) := by decide +kernel
theorem dVR_rank_27 : decode cVR_rank 27 = .ok (.iload_n 3, 1) := by decide +kernel
theorem dVR_rank_28 : decode cVR_rank 28 = .ok (.aaload, 1) := by decide +kernel
theorem dVR_rank_29 : decode cVR_rank 29 = .ok (.aload_n 0, 1) := by decide +kernel
theorem dVR_rank_30 : decode cVR_rank 30 = .ok (.getfield 18, 3) := by decide +kernel
theorem dVR_rank_33 : decode cVR_rank 33 = .ok (.iload_n 1, 1) := by decide +kernel
theorem dVR_rank_34 : decode cVR_rank 34 = .ok (.aaload, 1) := by decide +kernel
theorem dVR_rank_35 : decode cVR_rank 35 = .ok (.invokevirtual 56, 3) := by decide +kernel
theorem dVR_rank_38 : decode cVR_rank 38 = .ok (.ifCond .ge 6, 3) := by decide +kernel
theorem dVR_rank_41 : decode cVR_rank 41 = .ok (.iinc 2 1, 3) := by decide +kernel
theorem dVR_rank_44 : decode cVR_rank 44 = .ok (.iinc 3 1, 3) := by decide +kernel
theorem dVR_rank_47 : decode cVR_rank 47 = .ok (.goto (-32), 3) := by decide +kernel
theorem dVR_rank_50 : decode cVR_rank 50 = .ok (.iload_n 2, 1) := by decide +kernel
theorem dVR_rank_51 : decode cVR_rank 51 = .ok (.ireturn, 1) := by decide +kernel
theorem dVR_match_0 : decode cVR_match 0 = .ok (.aload_n 0, 1) := by decide +kernel
theorem dVR_match_1 : decode cVR_match 1 = .ok (.invokevirtual 67, 3) := by decide +kernel
theorem dVR_match_4 : decode cVR_match 4 = .ok (.istore_n 1, 1) := by decide +kernel
theorem dVR_match_5 : decode cVR_match 5 = .ok (.aload_n 0, 1) := by decide +kernel
theorem dVR_match_6 : decode cVR_match 6 = .ok (.getfield 10, 3) := by decide +kernel
theorem dVR_match_9 : decode cVR_match 9 = .ok (.iconst 0, 1) := by decide +kernel
theorem dVR_match_10 : decode cVR_match 10 = .ok (.putfield 46, 3) := by decide +kernel
theorem dVR_match_13 : decode cVR_match 13 = .ok (.iload_n 1, 1) := by decide +kernel
theorem dVR_match_14 : decode cVR_match 14 = .ok (.ireturn, 1) := by decide +kernel
theorem dVR_clear_0 : decode cVR_clear 0 = .ok (.aload_n 0, 1) := by decide +kernel
theorem dVR_clear_1 : decode cVR_clear 1 = .ok (.getfield 34, 3) := by decide +kernel
theorem dVR_clear_4 : decode cVR_clear 4 = .ok (.istore_n 1, 1) := by decide +kernel
theorem dVR_clear_5 : decode cVR_clear 5 = .ok (.aload_n 0, 1) := by decide +kernel
theorem dVR_clear_6 : decode cVR_clear 6 = .ok (.iconst 0, 1) := by decide +kernel
theorem dVR_clear_7 : decode cVR_clear 7 = .ok (.putfield 34, 3) := by decide +kernel
theorem dVR_clear_10 : decode cVR_clear 10 = .ok (.iload_n 1, 1) := by decide +kernel
theorem dVR_clear_11 : decode cVR_clear 11 = .ok (.ireturn, 1) := by decide +kernel
theorem dVR_isListed_0 : decode cVR_isListed 0 = .ok (.iload_n 1, 1) := by decide +kernel
theorem dVR_isListed_1 : decode cVR_isListed 1 = .ok (.ifCond .lt 15, 3) := by decide +kernel
theorem dVR_isListed_4 : decode cVR_isListed 4 = .ok (.iload_n 1, 1) := by decide +kernel
theorem dVR_isListed_5 : decode cVR_isListed 5 = .ok (.aload_n 0, 1) := by decide +kernel
theorem dVR_isListed_6 : decode cVR_isListed 6 = .ok (.getfield 34, 3) := by decide +kernel
theorem dVR_isListed_9 : decode cVR_isListed 9 = .ok (.if_icmp .ge 7, 3) := by decide +kernel
theorem dVR_isListed_12 : decode cVR_isListed 12 = .ok (.iconst 1, 1) := by decide +kernel
theorem dVR_isListed_13 : decode cVR_isListed 13 = .ok (.goto 4, 3) := by decide +kernel
theorem dVR_isListed_16 : decode cVR_isListed 16 = .ok (.iconst 0, 1) := by decide +kernel
theorem dVR_isListed_17 : decode cVR_isListed 17 = .ok (.ireturn, 1) := by decide +kernel
theorem dVR_addVersionOfTape_0 : decode cVR_addVersionOfTape 0 = .ok (.aload_n 0, 1) := by decide +kernel
theorem dVR_addVersionOfTape_1 : decode cVR_addVersionOfTape 1 = .ok (.getfield 10, 3) := by decide +kernel
theorem dVR_addVersionOfTape_4 : decode cVR_addVersionOfTape 4 = .ok (.invokevirtual 70, 3) := by decide +kernel
theorem dVR_addVersionOfTape_7 : decode cVR_addVersionOfTape 7 = .ok (.iconst 1, 1) := by decide +kernel
theorem dVR_addVersionOfTape_8 : decode cVR_addVersionOfTape 8 = .ok (.if_icmp .eq 6, 3) := by decide +kernel
theorem dVR_addVersionOfTape_11 : decode cVR_addVersionOfTape 11 = .ok (.bipush (-4), 2) := by decide +kernel
theorem dVR_addVersionOfTape_13 : decode cVR_addVersionOfTape 13 = .ok (.ireturn, 1) := by decide +kernel
theorem dVR_addVersionOfTape_14 : decode cVR_addVersionOfTape 14 = .ok (.aload_n 0, 1) := by decide +kernel
theorem dVR_addVersionOfTape_15 : decode cVR_addVersionOfTape 15 = .ok (.getfield 10, 3) := by decide +kernel
theorem dVR_addVersionOfTape_18 : decode cVR_addVersionOfTape 18 = .ok (.iconst 0, 1) := by decide +kernel
theorem dVR_addVersionOfTape_19 : decode cVR_addVersionOfTape 19 = .ok (.invokevirtual 73, 3) := by decide +kernel
theorem dVR_addVersionOfTape_22 : decode cVR_addVersionOfTape 22 = .ok (.aload_n 0, 1) := by decide +kernel
theorem dVR_addVersionOfTape_23 : decode cVR_addVersionOfTape 23 = .ok (.getfield 23, 3) := by decide +kernel
theorem dVR_addVersionOfTape_26 : decode cVR_addVersionOfTape 26 = .ok (.aload_n 0, 1) := by decide +kernel
theorem dVR_addVersionOfTape_27 : decode cVR_addVersionOfTape 27 = .ok (.getfield 10, 3) := by decide +kernel
theorem dVR_addVersionOfTape_30 : decode cVR_addVersionOfTape 30 = .ok (.invokevirtual 76, 3) := by decide +kernel
theorem dVR_addVersionOfTape_33 : decode cVR_addVersionOfTape 33 = .ok (.ifCond .ne 6, 3) := by decide +kernel
theorem dVR_addVersionOfTape_36 : decode cVR_addVersionOfTape 36 = .ok (.bipush (-4), 2) := by decide +kernel
theorem dVR_addVersionOfTape_38 : decode cVR_addVersionOfTape 38 = .ok (.ireturn, 1) := by decide +kernel
theorem dVR_addVersionOfTape_39 : decode cVR_addVersionOfTape 39 = .ok (.aload_n 0, 1) := by decide +kernel
theorem dVR_addVersionOfTape_40 : decode cVR_addVersionOfTape 40 = .ok (.getfield 34, 3) := by decide +kernel
theorem dVR_addVersionOfTape_43 : decode cVR_addVersionOfTape 43 = .ok (.bipush 12, 2) := by decide +kernel
theorem dVR_addVersionOfTape_45 : decode cVR_addVersionOfTape 45 = .ok (.if_icmp .lt 6, 3) := by decide +kernel
theorem dVR_addVersionOfTape_48 : decode cVR_addVersionOfTape 48 = .ok (.bipush (-3), 2) := by decide +kernel
theorem dVR_addVersionOfTape_50 : decode cVR_addVersionOfTape 50 = .ok (.ireturn, 1) := by decide +kernel
theorem dVR_addVersionOfTape_51 : decode cVR_addVersionOfTape 51 = .ok (.aload_n 0, 1) := by decide +kernel
theorem dVR_addVersionOfTape_52 : decode cVR_addVersionOfTape 52 = .ok (.getfield 18, 3) := by decide +kernel
theorem dVR_addVersionOfTape_55 : decode cVR_addVersionOfTape 55 = .ok (.aload_n 0, 1) := by decide +kernel
theorem dVR_addVersionOfTape_56 : decode cVR_addVersionOfTape 56 = .ok (.getfield 34, 3) := by decide +kernel
theorem dVR_addVersionOfTape_59 : decode cVR_addVersionOfTape 59 = .ok (.aaload, 1) := by decide +kernel
theorem dVR_addVersionOfTape_60 : decode cVR_addVersionOfTape 60 = .ok (.aload_n 0, 1) := by decide +kernel
theorem dVR_addVersionOfTape_61 : decode cVR_addVersionOfTape 61 = .ok (.getfield 23, 3) := by decide +kernel
theorem dVR_addVersionOfTape_64 : decode cVR_addVersionOfTape 64 = .ok (.invokevirtual 80, 3) := by decide +kernel
theorem dVR_addVersionOfTape_67 : decode cVR_addVersionOfTape 67 = .ok (.aload_n 0, 1) := by decide +kernel
theorem dVR_addVersionOfTape_68 : decode cVR_addVersionOfTape 68 = .ok (.dup, 1) := by decide +kernel
theorem dVR_addVersionOfTape_69 : decode cVR_addVersionOfTape 69 = .ok (.getfield 34, 3) := by decide +kernel
theorem dVR_addVersionOfTape_72 : decode cVR_addVersionOfTape 72 = .ok (.iconst 1, 1) := by decide +kernel
theorem dVR_addVersionOfTape_73 : decode cVR_addVersionOfTape 73 = .ok (.iadd, 1) := by decide +kernel
theorem dVR_addVersionOfTape_74 : decode cVR_addVersionOfTape 74 = .ok (.putfield 34, 3) := by decide +kernel
theorem dVR_addVersionOfTape_77 : decode cVR_addVersionOfTape 77 = .ok (.aload_n 0, 1) := by decide +kernel
theorem dVR_addVersionOfTape_78 : decode cVR_addVersionOfTape 78 = .ok (.getfield 34, 3) := by decide +kernel
theorem dVR_addVersionOfTape_81 : decode cVR_addVersionOfTape 81 = .ok (.iconst 1, 1) := by decide +kernel
theorem dVR_addVersionOfTape_82 : decode cVR_addVersionOfTape 82 = .ok (.isub, 1) := by decide +kernel
theorem dVR_addVersionOfTape_83 : decode cVR_addVersionOfTape 83 = .ok (.ireturn, 1) := by decide +kernel
theorem dVR_bitsInRangeOfTape_0 : decode cVR_bitsInRangeOfTape 0 = .ok (.aload_n 0, 1) := by decide +kernel
theorem dVR_bitsInRangeOfTape_1 : decode cVR_bitsInRangeOfTape 1 = .ok (.getfield 10, 3) := by decide +kernel
theorem dVR_bitsInRangeOfTape_4 : decode cVR_bitsInRangeOfTape 4 = .ok (.invokevirtual 70, 3) := by decide +kernel
theorem dVR_bitsInRangeOfTape_7 : decode cVR_bitsInRangeOfTape 7 = .ok (.istore_n 1, 1) := by decide +kernel
theorem dVR_bitsInRangeOfTape_8 : decode cVR_bitsInRangeOfTape 8 = .ok (.iconst 0, 1) := by decide +kernel
theorem dVR_bitsInRangeOfTape_9 : decode cVR_bitsInRangeOfTape 9 = .ok (.istore_n 2, 1) := by decide +kernel
theorem dVR_bitsInRangeOfTape_10 : decode cVR_bitsInRangeOfTape 10 = .ok (.iconst 1, 1) := by decide +kernel
theorem dVR_bitsInRangeOfTape_11 : decode cVR_bitsInRangeOfTape 11 = .ok (.istore_n 3, 1) := by decide +kernel
theorem dVR_bitsInRangeOfTape_12 : decode cVR_bitsInRangeOfTape 12 = .ok (.iconst 0, 1) := by decide +kernel
theorem dVR_bitsInRangeOfTape_13 : decode cVR_bitsInRangeOfTape 13 = .ok (.istore 4, 2) := by decide +kernel
theorem dVR_bitsInRangeOfTape_15 : decode cVR_bitsInRangeOfTape 15 = .ok (.aload_n 0, 1) := by decide +kernel
theorem dVR_bitsInRangeOfTape_16 : decode cVR_bitsInRangeOfTape 16 = .ok (.invokevirtual 84, 3) := by decide +kernel
theorem dVR_bitsInRangeOfTape_19 : decode cVR_bitsInRangeOfTape 19 = .ok (.istore 5, 2) := by decide +kernel
theorem dVR_bitsInRangeOfTape_21 : decode cVR_bitsInRangeOfTape 21 = .ok (.iconst 0, 1) := by decide +kernel
theorem dVR_bitsInRangeOfTape_22 : decode cVR_bitsInRangeOfTape 22 = .ok (.istore 6, 2) := by decide +kernel
theorem dVR_bitsInRangeOfTape_24 : decode cVR_bitsInRangeOfTape 24 = .ok (.iload 6, 2) := by decide +kernel
theorem dVR_bitsInRangeOfTape_26 : decode cVR_bitsInRangeOfTape 26 = .ok (.iload_n 1, 1) := by decide +kernel
theorem dVR_bitsInRangeOfTape_27 : decode cVR_bitsInRangeOfTape 27 = .ok (.if_icmp .ge 96, 3) := by decide +kernel
theorem dVR_bitsInRangeOfTape_30 : decode cVR_bitsInRangeOfTape 30 = .ok (.aload_n 0, 1) := by decide +kernel
theorem dVR_bitsInRangeOfTape_31 : decode cVR_bitsInRangeOfTape 31 = .ok (.getfield 10, 3) := by decide +kernel
theorem dVR_bitsInRangeOfTape_34 : decode cVR_bitsInRangeOfTape 34 = .ok (.iload 6, 2) := by decide +kernel
theorem dVR_bitsInRangeOfTape_36 : decode cVR_bitsInRangeOfTape 36 = .ok (.invokevirtual 73, 3) := by decide +kernel
theorem dVR_bitsInRangeOfTape_39 : decode cVR_bitsInRangeOfTape 39 = .ok (.aload_n 0, 1) := by decide +kernel
theorem dVR_bitsInRangeOfTape_40 : decode cVR_bitsInRangeOfTape 40 = .ok (.getfield 10, 3) := by decide +kernel
theorem dVR_bitsInRangeOfTape_43 : decode cVR_bitsInRangeOfTape 43 = .ok (.invokevirtual 87, 3) := by decide +kernel
theorem dVR_bitsInRangeOfTape_46 : decode cVR_bitsInRangeOfTape 46 = .ok (.ifCond .eq 36, 3) := by decide +kernel
theorem dVR_bitsInRangeOfTape_49 : decode cVR_bitsInRangeOfTape 49 = .ok (.iload 4, 2) := by decide +kernel
theorem dVR_bitsInRangeOfTape_51 : decode cVR_bitsInRangeOfTape 51 = .ok (.ifCond .eq 8, 3) := by decide +kernel
theorem dVR_bitsInRangeOfTape_54 : decode cVR_bitsInRangeOfTape 54 = .ok (.iload_n 3, 1) := by decide +kernel
theorem dVR_bitsInRangeOfTape_55 : decode cVR_bitsInRangeOfTape 55 = .ok (.iconst 4, 1) := by decide +kernel
theorem dVR_bitsInRangeOfTape_56 : decode cVR_bitsInRangeOfTape 56 = .ok (.if_icmp .ne 6, 3) := by decide +kernel
theorem dVR_bitsInRangeOfTape_59 : decode cVR_bitsInRangeOfTape 59 = .ok (.bipush (-4), 2) := by decide +kernel
theorem dVR_bitsInRangeOfTape_61 : decode cVR_bitsInRangeOfTape 61 = .ok (.ireturn, 1) := by decide +kernel
theorem dVR_bitsInRangeOfTape_62 : decode cVR_bitsInRangeOfTape 62 = .ok (.iload_n 2, 1) := by decide +kernel
theorem dVR_bitsInRangeOfTape_63 : decode cVR_bitsInRangeOfTape 63 = .ok (.iload 5, 2) := by decide +kernel
theorem dVR_bitsInRangeOfTape_65 : decode cVR_bitsInRangeOfTape 65 = .ok (.ior, 1) := by decide +kernel
theorem dVR_bitsInRangeOfTape_66 : decode cVR_bitsInRangeOfTape 66 = .ok (.istore_n 2, 1) := by decide +kernel
theorem dVR_bitsInRangeOfTape_67 : decode cVR_bitsInRangeOfTape 67 = .ok (.iinc 3 1, 3) := by decide +kernel
theorem dVR_bitsInRangeOfTape_70 : decode cVR_bitsInRangeOfTape 70 = .ok (.iconst 0, 1) := by decide +kernel
theorem dVR_bitsInRangeOfTape_71 : decode cVR_bitsInRangeOfTape 71 = .ok (.istore 4, 2) := by decide +kernel
theorem dVR_bitsInRangeOfTape_73 : decode cVR_bitsInRangeOfTape 73 = .ok (.aload_n 0, 1) := by decide +kernel
theorem dVR_bitsInRangeOfTape_74 : decode cVR_bitsInRangeOfTape 74 = .ok (.invokevirtual 84, 3) := by decide +kernel
theorem dVR_bitsInRangeOfTape_77 : decode cVR_bitsInRangeOfTape 77 = .ok (.istore 5, 2) := by decide +kernel
theorem dVR_bitsInRangeOfTape_79 : decode cVR_bitsInRangeOfTape 79 = .ok (.goto 38, 3) := by decide +kernel
theorem dVR_bitsInRangeOfTape_82 : decode cVR_bitsInRangeOfTape 82 = .ok (.iload 4, 2) := by decide +kernel
theorem dVR_bitsInRangeOfTape_84 : decode cVR_bitsInRangeOfTape 84 = .ok (.iconst 4, 1) := by decide +kernel
theorem dVR_bitsInRangeOfTape_85 : decode cVR_bitsInRangeOfTape 85 = .ok (.if_icmp .eq 17, 3) := by decide +kernel
theorem dVR_bitsInRangeOfTape_88 : decode cVR_bitsInRangeOfTape 88 = .ok (.aload_n 0, 1) := by decide +kernel
theorem dVR_bitsInRangeOfTape_89 : decode cVR_bitsInRangeOfTape 89 = .ok (.getfield 30, 3) := by decide +kernel
theorem dVR_bitsInRangeOfTape_92 : decode cVR_bitsInRangeOfTape 92 = .ok (.aload_n 0, 1) := by decide +kernel
theorem dVR_bitsInRangeOfTape_93 : decode cVR_bitsInRangeOfTape 93 = .ok (.getfield 10, 3) := by decide +kernel
theorem dVR_bitsInRangeOfTape_96 : decode cVR_bitsInRangeOfTape 96 = .ok (.invokevirtual 91, 3) := by decide +kernel
theorem dVR_bitsInRangeOfTape_99 : decode cVR_bitsInRangeOfTape 99 = .ok (.ifCond .ne 6, 3) := by decide +kernel
theorem dVR_bitsInRangeOfTape_102 : decode cVR_bitsInRangeOfTape 102 = .ok (.bipush (-4), 2) := by decide +kernel
theorem dVR_bitsInRangeOfTape_104 : decode cVR_bitsInRangeOfTape 104 = .ok (.ireturn, 1) := by decide +kernel
theorem dVR_bitsInRangeOfTape_105 : decode cVR_bitsInRangeOfTape 105 = .ok (.iinc 4 1, 3) := by decide +kernel
theorem dVR_bitsInRangeOfTape_108 : decode cVR_bitsInRangeOfTape 108 = .ok (.iload 5, 2) := by decide +kernel
theorem dVR_bitsInRangeOfTape_110 : decode cVR_bitsInRangeOfTape 110 = .ok (.aload_n 0, 1) := by decide +kernel
theorem dVR_bitsInRangeOfTape_111 : decode cVR_bitsInRangeOfTape 111 = .ok (.invokevirtual 92, 3) := by decide +kernel
theorem dVR_bitsInRangeOfTape_114 : decode cVR_bitsInRangeOfTape 114 = .ok (.iand, 1) := by decide +kernel
theorem dVR_bitsInRangeOfTape_115 : decode cVR_bitsInRangeOfTape 115 = .ok (.istore 5, 2) := by decide +kernel
theorem dVR_bitsInRangeOfTape_117 : decode cVR_bitsInRangeOfTape 117 = .ok (.iinc 6 1, 3) := by decide +kernel
theorem dVR_bitsInRangeOfTape_120 : decode cVR_bitsInRangeOfTape 120 = .ok (.goto (-96), 3) := by decide +kernel
theorem dVR_bitsInRangeOfTape_123 : decode cVR_bitsInRangeOfTape 123 = .ok (.iload 4, 2) := by decide +kernel
theorem dVR_bitsInRangeOfTape_125 : decode cVR_bitsInRangeOfTape 125 = .ok (.ifCond .ne 8, 3) := by decide +kernel
theorem dVR_bitsInRangeOfTape_128 : decode cVR_bitsInRangeOfTape 128 = .ok (.bipush (-4), 2) := by decide +kernel
theorem dVR_bitsInRangeOfTape_130 : decode cVR_bitsInRangeOfTape 130 = .ok (.goto 7, 3) := by decide +kernel
theorem dVR_bitsInRangeOfTape_133 : decode cVR_bitsInRangeOfTape 133 = .ok (.iload_n 2, 1) := by decide +kernel
theorem dVR_bitsInRangeOfTape_134 : decode cVR_bitsInRangeOfTape 134 = .ok (.iload 5, 2) := by decide +kernel
theorem dVR_bitsInRangeOfTape_136 : decode cVR_bitsInRangeOfTape 136 = .ok (.ior, 1) := by decide +kernel
theorem dVR_bitsInRangeOfTape_137 : decode cVR_bitsInRangeOfTape 137 = .ok (.ireturn, 1) := by decide +kernel
theorem dVR_allBits_0 : decode cVR_allBits 0 = .ok (.iconst 1, 1) := by decide +kernel
theorem dVR_allBits_1 : decode cVR_allBits 1 = .ok (.aload_n 0, 1) := by decide +kernel
theorem dVR_allBits_2 : decode cVR_allBits 2 = .ok (.getfield 34, 3) := by decide +kernel
theorem dVR_allBits_5 : decode cVR_allBits 5 = .ok (.ishl, 1) := by decide +kernel
theorem dVR_allBits_6 : decode cVR_allBits 6 = .ok (.iconst 1, 1) := by decide +kernel
theorem dVR_allBits_7 : decode cVR_allBits 7 = .ok (.isub, 1) := by decide +kernel
theorem dVR_allBits_8 : decode cVR_allBits 8 = .ok (.ireturn, 1) := by decide +kernel
theorem dVR_bitsOfTest_0 : decode cVR_bitsOfTest 0 = .ok (.iconst 0, 1) := by decide +kernel
theorem dVR_bitsOfTest_1 : decode cVR_bitsOfTest 1 = .ok (.istore_n 1, 1) := by decide +kernel
theorem dVR_bitsOfTest_2 : decode cVR_bitsOfTest 2 = .ok (.iconst 0, 1) := by decide +kernel
theorem dVR_bitsOfTest_3 : decode cVR_bitsOfTest 3 = .ok (.istore_n 2, 1) := by decide +kernel
theorem dVR_bitsOfTest_4 : decode cVR_bitsOfTest 4 = .ok (.iload_n 2, 1) := by decide +kernel
theorem dVR_bitsOfTest_5 : decode cVR_bitsOfTest 5 = .ok (.aload_n 0, 1) := by decide +kernel
theorem dVR_bitsOfTest_6 : decode cVR_bitsOfTest 6 = .ok (.getfield 34, 3) := by decide +kernel
theorem dVR_bitsOfTest_9 : decode cVR_bitsOfTest 9 = .ok (.if_icmp .ge 31, 3) := by decide +kernel
theorem dVR_bitsOfTest_12 : decode cVR_bitsOfTest 12 = .ok (.aload_n 0, 1) := by decide +kernel
theorem dVR_bitsOfTest_13 : decode cVR_bitsOfTest 13 = .ok (.getfield 30, 3) := by decide +kernel
theorem dVR_bitsOfTest_16 : decode cVR_bitsOfTest 16 = .ok (.aload_n 0, 1) := by decide +kernel
theorem dVR_bitsOfTest_17 : decode cVR_bitsOfTest 17 = .ok (.getfield 18, 3) := by decide +kernel
theorem dVR_bitsOfTest_20 : decode cVR_bitsOfTest 20 = .ok (.iload_n 2, 1) := by decide +kernel
theorem dVR_bitsOfTest_21 : decode cVR_bitsOfTest 21 = .ok (.aaload, 1) := by decide +kernel
theorem dVR_bitsOfTest_22 : decode cVR_bitsOfTest 22 = .ok (.invokevirtual 95, 3) := by decide +kernel
theorem dVR_bitsOfTest_25 : decode cVR_bitsOfTest 25 = .ok (.ifCond .eq 9, 3) := by decide +kernel
theorem dVR_bitsOfTest_28 : decode cVR_bitsOfTest 28 = .ok (.iload_n 1, 1) := by decide +kernel
theorem dVR_bitsOfTest_29 : decode cVR_bitsOfTest 29 = .ok (.iconst 1, 1) := by decide +kernel
theorem dVR_bitsOfTest_30 : decode cVR_bitsOfTest 30 = .ok (.iload_n 2, 1) := by decide +kernel
theorem dVR_bitsOfTest_31 : decode cVR_bitsOfTest 31 = .ok (.ishl, 1) := by decide +kernel
theorem dVR_bitsOfTest_32 : decode cVR_bitsOfTest 32 = .ok (.ior, 1) := by decide +kernel
theorem dVR_bitsOfTest_33 : decode cVR_bitsOfTest 33 = .ok (.istore_n 1, 1) := by decide +kernel
theorem dVR_bitsOfTest_34 : decode cVR_bitsOfTest 34 = .ok (.iinc 2 1, 3) := by decide +kernel
theorem dVR_bitsOfTest_37 : decode cVR_bitsOfTest 37 = .ok (.goto (-33), 3) := by decide +kernel
theorem dVR_bitsOfTest_40 : decode cVR_bitsOfTest 40 = .ok (.iload_n 1, 1) := by decide +kernel
theorem dVR_bitsOfTest_41 : decode cVR_bitsOfTest 41 = .ok (.ireturn, 1) := by decide +kernel
theorem dRT_init_0 : decode cRT_init 0 = .ok (.aload_n 0, 1) := by decide +kernel
theorem dRT_init_1 : decode cRT_init 1 = .ok (.invokespecial 1, 3) := by decide +kernel
theorem dRT_init_4 : decode cRT_init 4 = .ok (.aload_n 0, 1) := by decide +kernel
theorem dRT_init_5 : decode cRT_init 5 = .ok (.new 7, 3) := by decide +kernel
theorem dRT_init_8 : decode cRT_init 8 = .ok (.dup, 1) := by decide +kernel
theorem dRT_init_9 : decode cRT_init 9 = .ok (.invokespecial 9, 3) := by decide +kernel
theorem dRT_init_12 : decode cRT_init 12 = .ok (.putfield 10, 3) := by decide +kernel
theorem dRT_init_15 : decode cRT_init 15 = .ok (.aload_n 0, 1) := by decide +kernel
theorem dRT_init_16 : decode cRT_init 16 = .ok (.new 7, 3) := by decide +kernel
theorem dRT_init_19 : decode cRT_init 19 = .ok (.dup, 1) := by decide +kernel
theorem dRT_init_20 : decode cRT_init 20 = .ok (.invokespecial 9, 3) := by decide +kernel
theorem dRT_init_23 : decode cRT_init 23 = .ok (.putfield 16, 3) := by decide +kernel
theorem dRT_init_26 : decode cRT_init 26 = .ok (.aload_n 0, 1) := by decide +kernel
theorem dRT_init_27 : decode cRT_init 27 = .ok (.getstatic 19, 3) := by decide +kernel
theorem dRT_init_30 : decode cRT_init 30 = .ok (.putfield 25, 3) := by decide +kernel
theorem dRT_init_33 : decode cRT_init 33 = .ok (.return_, 1) := by decide +kernel
theorem dRT_readFrom_0 : decode cRT_readFrom 0 = .ok (.aload_n 0, 1) := by decide +kernel
theorem dRT_readFrom_1 : decode cRT_readFrom 1 = .ok (.aload_n 1, 1) := by decide +kernel
theorem dRT_readFrom_2 : decode cRT_readFrom 2 = .ok (.invokestatic 28, 3) := by decide +kernel
theorem dRT_readFrom_5 : decode cRT_readFrom 5 = .ok (.putfield 25, 3) := by decide +kernel
theorem dRT_readFrom_8 : decode cRT_readFrom 8 = .ok (.aload_n 0, 1) := by decide +kernel
theorem dRT_readFrom_9 : decode cRT_readFrom 9 = .ok (.getfield 25, 3) := by decide +kernel
theorem dRT_readFrom_12 : decode cRT_readFrom 12 = .ok (.getstatic 19, 3) := by decide +kernel
theorem dRT_readFrom_15 : decode cRT_readFrom 15 = .ok (.if_acmp .ne 8, 3) := by decide +kernel
theorem dRT_readFrom_18 : decode cRT_readFrom 18 = .ok (.aload_n 1, 1) := by decide +kernel
theorem dRT_readFrom_19 : decode cRT_readFrom 19 = .ok (.invokevirtual 32, 3) := by decide +kernel
theorem dRT_readFrom_22 : decode cRT_readFrom 22 = .ok (.ireturn, 1) := by decide +kernel
theorem dRT_readFrom_23 : decode cRT_readFrom 23 = .ok (.aload_n 0, 1) := by decide +kernel
theorem dRT_readFrom_24 : decode cRT_readFrom 24 = .ok (.getfield 10, 3) := by decide +kernel
theorem dRT_readFrom_27 : decode cRT_readFrom 27 = .ok (.aload_n 1, 1) := by decide +kernel
theorem dRT_readFrom_28 : decode cRT_readFrom 28 = .ok (.invokevirtual 38, 3) := by decide +kernel
theorem dRT_readFrom_31 : decode cRT_readFrom 31 = .ok (.ifCond .ne 5, 3) := by decide +kernel
theorem dRT_readFrom_34 : decode cRT_readFrom 34 = .ok (.iconst 0, 1) := by decide +kernel
theorem dRT_readFrom_35 : decode cRT_readFrom 35 = .ok (.ireturn, 1) := by decide +kernel
theorem dRT_readFrom_36 : decode cRT_readFrom 36 = .ok (.aload_n 0, 1) := by decide +kernel
theorem dRT_readFrom_37 : decode cRT_readFrom 37 = .ok (.invokevirtual 42, 3) := by decide +kernel
theorem dRT_readFrom_40 : decode cRT_readFrom 40 = .ok (.iconst 1, 1) := by decide +kernel
theorem dRT_readFrom_41 : decode cRT_readFrom 41 = .ok (.ireturn, 1) := by decide +kernel
theorem dRT_readSign_0 : decode cRT_readSign 0 = .ok (.aload_n 0, 1) := by decide +kernel
theorem dRT_readSign_1 : decode cRT_readSign 1 = .ok (.bipush 42, 2) := by decide +kernel
theorem dRT_readSign_3 : decode cRT_readSign 3 = .ok (.invokevirtual 45, 3) := by decide +kernel
theorem dRT_readSign_6 : decode cRT_readSign 6 = .ok (.ifCond .eq 7, 3) := by decide +kernel
theorem dRT_readSign_9 : decode cRT_readSign 9 = .ok (.getstatic 19, 3) := by decide +kernel
theorem dRT_readSign_12 : decode cRT_readSign 12 = .ok (.areturn, 1) := by decide +kernel
theorem dRT_readSign_13 : decode cRT_readSign 13 = .ok (.aload_n 0, 1) := by decide +kernel
theorem dRT_readSign_14 : decode cRT_readSign 14 = .ok (.bipush 60, 2) := by decide +kernel
theorem dRT_readSign_16 : decode cRT_readSign 16 = .ok (.invokevirtual 45, 3) := by decide +kernel
theorem dRT_readSign_19 : decode cRT_readSign 19 = .ok (.ifCond .eq 22, 3) := by decide +kernel
theorem dRT_readSign_22 : decode cRT_readSign 22 = .ok (.aload_n 0, 1) := by decide +kernel
theorem dRT_readSign_23 : decode cRT_readSign 23 = .ok (.bipush 61, 2) := by decide +kernel
theorem dRT_readSign_25 : decode cRT_readSign 25 = .ok (.invokevirtual 45, 3) := by decide +kernel
theorem dRT_readSign_28 : decode cRT_readSign 28 = .ok (.ifCond .eq 9, 3) := by decide +kernel
theorem dRT_readSign_31 : decode cRT_readSign 31 = .ok (.getstatic 49, 3) := by decide +kernel
theorem dRT_readSign_34 : decode cRT_readSign 34 = .ok (.goto 6, 3) := by decide +kernel
theorem dRT_readSign_37 : decode cRT_readSign 37 = .ok (.getstatic 52, 3) := by decide +kernel
theorem dRT_readSign_40 : decode cRT_readSign 40 = .ok (.areturn, 1) := by decide +kernel
theorem dRT_readSign_41 : decode cRT_readSign 41 = .ok (.aload_n 0, 1) := by decide +kernel
theorem dRT_readSign_42 : decode cRT_readSign 42 = .ok (.bipush 62, 2) := by decide +kernel
theorem dRT_readSign_44 : decode cRT_readSign 44 = .ok (.invokevirtual 45, 3) := by decide +kernel
theorem dRT_readSign_47 : decode cRT_readSign 47 = .ok (.ifCond .eq 22, 3) := by decide +kernel
theorem dRT_readSign_50 : decode cRT_readSign 50 = .ok (.aload_n 0, 1) := by decide +kernel
theorem dRT_readSign_51 : decode cRT_readSign 51 = .ok (.bipush 61, 2) := by decide +kernel
theorem dRT_readSign_53 : decode cRT_readSign 53 = .ok (.invokevirtual 45, 3) := by decide +kernel
theorem dRT_readSign_56 : decode cRT_readSign 56 = .ok (.ifCond .eq 9, 3) := by decide +kernel
theorem dRT_readSign_59 : decode cRT_readSign 59 = .ok (.getstatic 55, 3) := by decide +kernel
theorem dRT_readSign_62 : decode cRT_readSign 62 = .ok (.goto 6, 3) := by decide +kernel
theorem dRT_readSign_65 : decode cRT_readSign 65 = .ok (.getstatic 58, 3) := by decide +kernel
theorem dRT_readSign_68 : decode cRT_readSign 68 = .ok (.areturn, 1) := by decide +kernel
theorem dRT_readSign_69 : decode cRT_readSign 69 = .ok (.aload_n 0, 1) := by decide +kernel
theorem dRT_readSign_70 : decode cRT_readSign 70 = .ok (.bipush 94, 2) := by decide +kernel
theorem dRT_readSign_72 : decode cRT_readSign 72 = .ok (.invokevirtual 45, 3) := by decide +kernel
theorem dRT_readSign_75 : decode cRT_readSign 75 = .ok (.ifCond .eq 7, 3) := by decide +kernel
theorem dRT_readSign_78 : decode cRT_readSign 78 = .ok (.getstatic 61, 3) := by decide +kernel
theorem dRT_readSign_81 : decode cRT_readSign 81 = .ok (.areturn, 1) := by decide +kernel
theorem dRT_readSign_82 : decode cRT_readSign 82 = .ok (.aload_n 0, 1) := by decide +kernel
theorem dRT_readSign_83 : decode cRT_readSign 83 = .ok (.bipush 126, 2) := by decide +kernel
theorem dRT_readSign_85 : decode cRT_readSign 85 = .ok (.invokevirtual 45, 3) := by decide +kernel
theorem dRT_readSign_88 : decode cRT_readSign 88 = .ok (.ifCond .eq 7, 3) := by decide +kernel
theorem dRT_readSign_91 : decode cRT_readSign 91 = .ok (.getstatic 64, 3) := by decide +kernel
theorem dRT_readSign_94 : decode cRT_readSign 94 = .ok (.areturn, 1) := by decide +kernel
theorem dRT_readSign_95 : decode cRT_readSign 95 = .ok (.aload_n 0, 1) := by decide +kernel
theorem dRT_readSign_96 : decode cRT_readSign 96 = .ok (.bipush 61, 2) := by decide +kernel
theorem dRT_readSign_98 : decode cRT_readSign 98 = .ok (.invokevirtual 45, 3) := by decide +kernel
theorem dRT_readSign_101 : decode cRT_readSign 101 = .ok (.pop, 1) := by decide +kernel
theorem dRT_readSign_102 : decode cRT_readSign 102 = .ok (.getstatic 67, 3) := by decide +kernel
theorem dRT_readSign_105 : decode cRT_readSign 105 = .ok (.areturn, 1) := by decide +kernel
theorem dRT_setCeiling_0 : decode cRT_setCeiling 0 = .ok (.aload_n 0, 1) := by decide +kernel
theorem dRT_setCeiling_1 : decode cRT_setCeiling 1 = .ok (.getfield 10, 3) := by decide +kernel
theorem dRT_setCeiling_4 : decode cRT_setCeiling 4 = .ok (.iconst 0, 1) := by decide +kernel
theorem dRT_setCeiling_5 : decode cRT_setCeiling 5 = .ok (.invokevirtual 70, 3) := by decide +kernel
theorem dRT_setCeiling_8 : decode cRT_setCeiling 8 = .ok (.i2l, 1) := by decide +kernel
theorem dRT_setCeiling_9 : decode cRT_setCeiling 9 = .ok (.lstore_n 1, 1) := by decide +kernel
theorem dRT_setCeiling_10 : decode cRT_setCeiling 10 = .ok (.aload_n 0, 1) := by decide +kernel
theorem dRT_setCeiling_11 : decode cRT_setCeiling 11 = .ok (.getfield 10, 3) := by decide +kernel
theorem dRT_setCeiling_14 : decode cRT_setCeiling 14 = .ok (.iconst 1, 1) := by decide +kernel
theorem dRT_setCeiling_15 : decode cRT_setCeiling 15 = .ok (.invokevirtual 70, 3) := by decide +kernel
theorem dRT_setCeiling_18 : decode cRT_setCeiling 18 = .ok (.i2l, 1) := by decide +kernel
theorem dRT_setCeiling_19 : decode cRT_setCeiling 19 = .ok (.lstore_n 3, 1) := by decide +kernel
theorem dRT_setCeiling_20 : decode cRT_setCeiling 20 = .ok (.aload_n 0, 1) := by decide +kernel
theorem dRT_setCeiling_21 : decode cRT_setCeiling 21 = .ok (.getfield 10, 3) := by decide +kernel
theorem dRT_setCeiling_24 : decode cRT_setCeiling 24 = .ok (.iconst 2, 1) := by decide +kernel
theorem dRT_setCeiling_25 : decode cRT_setCeiling 25 = .ok (.invokevirtual 70, 3) := by decide +kernel
theorem dRT_setCeiling_28 : decode cRT_setCeiling 28 = .ok (.i2l, 1) := by decide +kernel
theorem dRT_setCeiling_29 : decode cRT_setCeiling 29 = .ok (.lstore 5, 2) := by decide +kernel
theorem dRT_setCeiling_31 : decode cRT_setCeiling 31 = .ok (.aload_n 0, 1) := by decide +kernel
theorem dRT_setCeiling_32 : decode cRT_setCeiling 32 = .ok (.getfield 25, 3) := by decide +kernel
theorem dRT_setCeiling_35 : decode cRT_setCeiling 35 = .ok (.getstatic 64, 3) := by decide +kernel
theorem dRT_setCeiling_38 : decode cRT_setCeiling 38 = .ok (.if_acmp .ne 18, 3) := by decide +kernel
theorem dRT_setCeiling_41 : decode cRT_setCeiling 41 = .ok (.aload_n 0, 1) := by decide +kernel
theorem dRT_setCeiling_42 : decode cRT_setCeiling 42 = .ok (.getfield 16, 3) := by decide +kernel
theorem dRT_setCeiling_45 : decode cRT_setCeiling 45 = .ok (.lload_n 1, 1) := by decide +kernel
theorem dRT_setCeiling_46 : decode cRT_setCeiling 46 = .ok (.lload_n 3, 1) := by decide +kernel
theorem dRT_setCeiling_47 : decode cRT_setCeiling 47 = .ok (.lconst 1, 1) := by decide +kernel
theorem dRT_setCeiling_48 : decode cRT_setCeiling 48 = .ok (.ladd, 1) := by decide +kernel
theorem dRT_setCeiling_49 : decode cRT_setCeiling 49 = .ok (.lconst 0, 1) := by decide +kernel
theorem dRT_setCeiling_50 : decode cRT_setCeiling 50 = .ok (.invokevirtual 74, 3) := by decide +kernel
theorem dRT_setCeiling_53 : decode cRT_setCeiling 53 = .ok (.goto 58, 3) := by decide +kernel
theorem dRT_setCeiling_56 : decode cRT_setCeiling 56 = .ok (.lload_n 1, 1) := by decide +kernel
theorem dRT_setCeiling_57 : decode cRT_setCeiling 57 = .ok (.lconst 0, 1) := by decide +kernel
theorem dRT_setCeiling_58 : decode cRT_setCeiling 58 = .ok (.lcmp, 1) := by decide +kernel
theorem dRT_setCeiling_59 : decode cRT_setCeiling 59 = .ok (.ifCond .le 18, 3) := by decide +kernel
theorem dRT_setCeiling_62 : decode cRT_setCeiling 62 = .ok (.aload_n 0, 1) := by decide +kernel
theorem dRT_setCeiling_63 : decode cRT_setCeiling 63 = .ok (.getfield 16, 3) := by decide +kernel
theorem dRT_setCeiling_66 : decode cRT_setCeiling 66 = .ok (.lload_n 1, 1) := by decide +kernel
theorem dRT_setCeiling_67 : decode cRT_setCeiling 67 = .ok (.lconst 1, 1) := by decide +kernel
theorem dRT_setCeiling_68 : decode cRT_setCeiling 68 = .ok (.ladd, 1) := by decide +kernel
theorem dRT_setCeiling_69 : decode cRT_setCeiling 69 = .ok (.lconst 0, 1) := by decide +kernel
theorem dRT_setCeiling_70 : decode cRT_setCeiling 70 = .ok (.lconst 0, 1) := by decide +kernel
theorem dRT_setCeiling_71 : decode cRT_setCeiling 71 = .ok (.invokevirtual 74, 3) := by decide +kernel
theorem dRT_setCeiling_74 : decode cRT_setCeiling 74 = .ok (.goto 37, 3) := by decide +kernel
theorem dRT_setCeiling_77 : decode cRT_setCeiling 77 = .ok (.lload_n 3, 1) := by decide +kernel
theorem dRT_setCeiling_78 : decode cRT_setCeiling 78 = .ok (.lconst 0, 1) := by decide +kernel
theorem dRT_setCeiling_79 : decode cRT_setCeiling 79 = .ok (.lcmp, 1) := by decide +kernel
theorem dRT_setCeiling_80 : decode cRT_setCeiling 80 = .ok (.ifCond .le 18, 3) := by decide +kernel
theorem dRT_setCeiling_83 : decode cRT_setCeiling 83 = .ok (.aload_n 0, 1) := by decide +kernel
theorem dRT_setCeiling_84 : decode cRT_setCeiling 84 = .ok (.getfield 16, 3) := by decide +kernel
theorem dRT_setCeiling_87 : decode cRT_setCeiling 87 = .ok (.lconst 0, 1) := by decide +kernel
theorem dRT_setCeiling_88 : decode cRT_setCeiling 88 = .ok (.lload_n 3, 1) := by decide +kernel
theorem dRT_setCeiling_89 : decode cRT_setCeiling 89 = .ok (.lconst 1, 1) := by decide +kernel
theorem dRT_setCeiling_90 : decode cRT_setCeiling 90 = .ok (.ladd, 1) := by decide +kernel
theorem dRT_setCeiling_91 : decode cRT_setCeiling 91 = .ok (.lconst 0, 1) := by decide +kernel
theorem dRT_setCeiling_92 : decode cRT_setCeiling 92 = .ok (.invokevirtual 74, 3) := by decide +kernel
theorem dRT_setCeiling_95 : decode cRT_setCeiling 95 = .ok (.goto 16, 3) := by decide +kernel
theorem dRT_setCeiling_98 : decode cRT_setCeiling 98 = .ok (.aload_n 0, 1) := by decide +kernel
theorem dRT_setCeiling_99 : decode cRT_setCeiling 99 = .ok (.getfield 16, 3) := by decide +kernel
theorem dRT_setCeiling_102 : decode cRT_setCeiling 102 = .ok (.lconst 0, 1) := by decide +kernel
theorem dRT_setCeiling_103 : decode cRT_setCeiling 103 = .ok (.lconst 0, 1) := by decide +kernel
theorem dRT_setCeiling_104 : decode cRT_setCeiling 104 = .ok (.lload 5, 2) := by decide +kernel
theorem dRT_setCeiling_106 : decode cRT_setCeiling 106 = .ok (.lconst 1, 1) := by decide +kernel
theorem dRT_setCeiling_107 : decode cRT_setCeiling 107 = .ok (.ladd, 1) := by decide +kernel
theorem dRT_setCeiling_108 : decode cRT_setCeiling 108 = .ok (.invokevirtual 74, 3) := by decide +kernel
theorem dRT_setCeiling_111 : decode cRT_setCeiling 111 = .ok (.return_, 1) := by decide +kernel
theorem dRT_holdsFor_0 : decode cRT_holdsFor 0 = .ok (.aload_n 0, 1) := by decide +kernel
theorem dRT_holdsFor_1 : decode cRT_holdsFor 1 = .ok (.getfield 25, 3) := by decide +kernel
theorem dRT_holdsFor_4 : decode cRT_holdsFor 4 = .ok (.aload_n 1, 1) := by decide +kernel
theorem dRT_holdsFor_5 : decode cRT_holdsFor 5 = .ok (.aload_n 0, 1) := by decide +kernel
theorem dRT_holdsFor_6 : decode cRT_holdsFor 6 = .ok (.getfield 10, 3) := by decide +kernel
theorem dRT_holdsFor_9 : decode cRT_holdsFor 9 = .ok (.invokevirtual 78, 3) := by decide +kernel
theorem dRT_holdsFor_12 : decode cRT_holdsFor 12 = .ok (.invokevirtual 82, 3) := by decide +kernel
theorem dRT_holdsFor_15 : decode cRT_holdsFor 15 = .ok (.ifCond .ne 5, 3) := by decide +kernel
theorem dRT_holdsFor_18 : decode cRT_holdsFor 18 = .ok (.iconst 0, 1) := by decide +kernel
theorem dRT_holdsFor_19 : decode cRT_holdsFor 19 = .ok (.ireturn, 1) := by decide +kernel
theorem dRT_holdsFor_20 : decode cRT_holdsFor 20 = .ok (.aload_n 0, 1) := by decide +kernel
theorem dRT_holdsFor_21 : decode cRT_holdsFor 21 = .ok (.getfield 25, 3) := by decide +kernel
theorem dRT_holdsFor_24 : decode cRT_holdsFor 24 = .ok (.getstatic 61, 3) := by decide +kernel
theorem dRT_holdsFor_27 : decode cRT_holdsFor 27 = .ok (.if_acmp .eq 13, 3) := by decide +kernel
theorem dRT_holdsFor_30 : decode cRT_holdsFor 30 = .ok (.aload_n 0, 1) := by decide +kernel
theorem dRT_holdsFor_31 : decode cRT_holdsFor 31 = .ok (.getfield 25, 3) := by decide +kernel
theorem dRT_holdsFor_34 : decode cRT_holdsFor 34 = .ok (.getstatic 64, 3) := by decide +kernel
theorem dRT_holdsFor_37 : decode cRT_holdsFor 37 = .ok (.if_acmp .ne 7, 3) := by decide +kernel
theorem dRT_holdsFor_40 : decode cRT_holdsFor 40 = .ok (.iconst 1, 1) := by decide +kernel
theorem dRT_holdsFor_41 : decode cRT_holdsFor 41 = .ok (.goto 4, 3) := by decide +kernel
theorem dRT_holdsFor_44 : decode cRT_holdsFor 44 = .ok (.iconst 0, 1) := by decide +kernel
theorem dRT_holdsFor_45 : decode cRT_holdsFor 45 = .ok (.istore_n 2, 1) := by decide +kernel
theorem dRT_holdsFor_46 : decode cRT_holdsFor 46 = .ok (.iload_n 2, 1) := by decide +kernel
theorem dRT_holdsFor_47 : decode cRT_holdsFor 47 = .ok (.ifCond .eq 14, 3) := by decide +kernel
theorem dRT_holdsFor_50 : decode cRT_holdsFor 50 = .ok (.aload_n 1, 1) := by decide +kernel
theorem dRT_holdsFor_51 : decode cRT_holdsFor 51 = .ok (.aload_n 0, 1) := by decide +kernel
theorem dRT_holdsFor_52 : decode cRT_holdsFor 52 = .ok (.getfield 16, 3) := by decide +kernel
theorem dRT_holdsFor_55 : decode cRT_holdsFor 55 = .ok (.invokevirtual 78, 3) := by decide +kernel
theorem dRT_holdsFor_58 : decode cRT_holdsFor 58 = .ok (.ifCond .ge 7, 3) := by decide +kernel
theorem dRT_holdsFor_61 : decode cRT_holdsFor 61 = .ok (.iconst 1, 1) := by decide +kernel
theorem dRT_holdsFor_62 : decode cRT_holdsFor 62 = .ok (.goto 4, 3) := by decide +kernel
theorem dRT_holdsFor_65 : decode cRT_holdsFor 65 = .ok (.iconst 0, 1) := by decide +kernel
theorem dRT_holdsFor_66 : decode cRT_holdsFor 66 = .ok (.ireturn, 1) := by decide +kernel
end
section
set_option maxHeartbeats 800000 in
set_option maxRecDepth 100000 in
theorem mVE_copyFrom (l : Launch) (g : kG) (μ : km_M) {va ra pb : Nat} {F : Nat → Int64} (hv : μ va = some (.inr (2, [.ref ra, .int (nI pb)]))) (hr0 : μ ra = some (.inl (g.2.2.1 2, 7, .inr (.inl F)))) {wa qa pc : Nat} {G : Nat → Int64} (hw : μ wa = some (.inr (2, [.ref qa, .int (nI pc)]))) (hq0 : μ qa = some (.inl (g.2.2.1 2, 7, .inr (.inl G)))) : Met l yVE_copyFrom (Cond.code yVE_copyFrom cVE_copyFrom 2 none :: Wd) ({ frames := 1, cells := 0, slots := 0, locals := 40 } : Room) (kPre g μ [.ref va, .ref wa]) (kQv g (fun (μ1 : km_M) => μ1 = km_up (km_up μ ra (.inl (g.2.2.1 2, 7, .inr (.inl (va_cpy G F 0 0 7))))) va (.inr (2, [.ref ra, .int (nI pc)])))) 0 0 (kF g) := by
  refine k_met (by decide) (Nat.le_of_ble_eq_true rfl) ?_
  intro p e s m below meth c hx hb hr hlocks hml hown hnm hW ls hl H locs hM
  have hl : lv_has ls 2 [(0, .ref va), (1, .ref wa)] := hl
  refine lv_aload_n hx hb dVE_copyFrom_0 rfl (lv_at hl 1 rfl) ?_
  refine k_get (own := RVE) (ref := RVE) (C := RVE) (T := TVE) (N := 2) (ci := 2) (v := .ref qa) hx hb hW inVE hown hM hw rfl 0 (by decide) (hW _ w_65) (fun _ h => h) rfl dVE_copyFrom_1 ?_
  refine lv_iconst (v := nI 0) hx hb dVE_copyFrom_4 (by decide) ?_
  refine lv_aload_n hx hb dVE_copyFrom_5 rfl (lv_at hl 0 rfl) ?_
  refine k_get (own := RVE) (ref := RVE) (C := RVE) (T := TVE) (N := 2) (ci := 2) (v := .ref ra) hx hb hW inVE hown hM hv rfl 0 (by decide) (hW _ w_65) (fun _ h => h) rfl dVE_copyFrom_6 ?_
  refine lv_iconst (v := nI 0) hx hb dVE_copyFrom_9 (by decide) ?_
  refine lv_aload_n hx hb dVE_copyFrom_10 rfl (lv_at hl 0 rfl) ?_
  refine k_get (own := RVE) (ref := RVE) (C := RVE) (T := TVE) (N := 2) (ci := 2) (v := .ref ra) hx hb hW inVE hown hM hv rfl 0 (by decide) (hW _ w_65) (fun _ h => h) rfl dVE_copyFrom_11 ?_
  refine k_alen hx hb hM 2 hr0 rfl dVE_copyFrom_14 ?_
  refine k_copyl (sp := 0) (dp := 0) (n := 7) (f1 := va_cpy G F 0 0 7) hx hb (by rw [hml]; exact hl.1.symm) hown (hW _ w_187) (hW _ w_189) (hW _ w_188) (hW _ w_8) hM 2 hq0 hr0 rfl (by omega) (by omega) (by omega) (by omega) (Nat.le_of_ble_eq_true rfl) (Nat.le_of_ble_eq_true rfl) dVE_copyFrom_15 rfl (fun H locs hM => ?_)
  have hM : kS g (km_up μ ra (.inl (g.2.2.1 2, 7, .inr (.inl (va_cpy G F 0 0 7))))) s H locs := hM
  refine lv_aload_n hx hb dVE_copyFrom_18 rfl (lv_at hl 0 rfl) ?_
  refine lv_aload_n hx hb dVE_copyFrom_19 rfl (lv_at hl 1 rfl) ?_
  refine k_get (own := RVE) (ref := RVE) (C := RVE) (T := TVE) (N := 2) (ci := 2) (v := .int (nI pc)) hx hb hW inVE hown hM ((km_n (km_apB hw hr0)).trans hw) rfl 1 (by decide) (hW _ w_66) (fun _ h => h) rfl dVE_copyFrom_20 ?_
  refine k_put (own := RVE) (ref := RVE) (C := RVE) (T := TVE) (N := 2) (ci := 2) (v := .int (nI pc)) (ty := .int) (fs' := [.ref ra, .int (nI pc)]) hx hb hW inVE tyVE tyokVE nmokVE hown hM ((km_n (km_apB hv hr0)).trans hv) rfl 1 (by decide) (hW _ w_66) (fun _ h => h) rfl (by decide +kernel) rfl rfl (Nat.le_of_ble_eq_true rfl) dVE_copyFrom_23 rfl (fun H locs hM => ?_)
  have hM : kS g (km_up (km_up μ ra (.inl (g.2.2.1 2, 7, .inr (.inl (va_cpy G F 0 0 7))))) va (.inr (2, [.ref ra, .int (nI pc)]))) s H locs := hM
  exact kr_v hx hb hr hlocks hM dVE_copyFrom_26 rfl
set_option maxHeartbeats 800000 in
set_option maxRecDepth 100000 in
theorem mSG_hasOrder (l : Launch) (g : kG) (μ : km_M) {i : Nat} (hi : i < 8) {x : Int32} : Met l ySG_hasOrder (Cond.code ySG_hasOrder cSG_hasOrder 2 (some .boolean) :: Wd) ({ frames := 0, cells := 0, slots := 0, locals := 0 } : Room) (kPre g μ [.ref (g.2.2.2.1 i), .int x]) (kQi g (fun (r : Int32) (μ1 : km_M) => r = enO i x ∧ μ1 = μ)) 0 0 (kF g) := by
  refine k_met (by decide) (Nat.le_of_ble_eq_true rfl) ?_
  intro p e s m below meth c hx hb hr hlocks hml hown hnm hW ls hl H locs hM
  have hl : lv_has ls 2 [(0, .ref (g.2.2.2.1 i)), (1, .int x)] := hl
  refine lv_iload_n hx hb dSG_hasOrder_0 rfl (lv_at hl 1 rfl) ?_
  refine lv_if_ge (tgt := 11) hx hb dSG_hasOrder_1 (by decide) (fun h1 => ?_) (fun h1 => ?_)
  · skip
    refine lv_iload_n hx hb dSG_hasOrder_11 rfl (lv_at hl 1 rfl) ?_
    refine lv_if_le (tgt := 22) hx hb dSG_hasOrder_12 (by decide) (fun h12 => ?_) (fun h12 => ?_)
    · skip
      refine lv_aload_n hx hb dSG_hasOrder_22 rfl (lv_at hl 0 rfl) ?_
      refine va_getE hx hb hM.2.1.2.2.1 (hi) hM.2.2.2 hown (q := ("VersionRanges$Sign", "hasSame", "Z", [1, 1, 0, 1, 0, 1, 1, 1])) (by decide +kernel) (hW _ w_670) (fun _ h => h) dSG_hasOrder_23 ?_
      refine topi_eq (y := enS i) rfl ?_
      exact kr_z hx hb hr (by first | exact (en_nar i hi).1 | exact (en_nar i hi).2.1 | exact (en_nar i hi).2.2) hlocks hM dSG_hasOrder_26 (⟨by unfold enO; first | rw [if_neg h1] | rw [if_pos h1, if_neg h12] | rw [if_pos h1, if_pos h12], rfl⟩)
    · skip
      refine lv_aload_n hx hb dSG_hasOrder_15 rfl (lv_at hl 0 rfl) ?_
      refine va_getE hx hb hM.2.1.2.2.1 (hi) hM.2.2.2 hown (q := ("VersionRanges$Sign", "hasAbove", "Z", [1, 0, 0, 0, 1, 1, 1, 1])) (by decide +kernel) (hW _ w_669) (fun _ h => h) dSG_hasOrder_16 ?_
      refine topi_eq (y := enA i) rfl ?_
      refine lv_goto (tgt := 26) hx hb dSG_hasOrder_19 (by decide) ?_
      exact kr_z hx hb hr (by first | exact (en_nar i hi).1 | exact (en_nar i hi).2.1 | exact (en_nar i hi).2.2) hlocks hM dSG_hasOrder_26 (⟨by unfold enO; first | rw [if_neg h1] | rw [if_pos h1, if_neg h12] | rw [if_pos h1, if_pos h12], rfl⟩)
  · skip
    refine lv_aload_n hx hb dSG_hasOrder_4 rfl (lv_at hl 0 rfl) ?_
    refine va_getE hx hb hM.2.1.2.2.1 (hi) hM.2.2.2 hown (q := ("VersionRanges$Sign", "hasBelow", "Z", [1, 0, 1, 1, 0, 0, 0, 0])) (by decide +kernel) (hW _ w_668) (fun _ h => h) dSG_hasOrder_5 ?_
    refine topi_eq (y := enB i) rfl ?_
    refine lv_goto (tgt := 26) hx hb dSG_hasOrder_8 (by decide) ?_
    exact kr_z hx hb hr (by first | exact (en_nar i hi).1 | exact (en_nar i hi).2.1 | exact (en_nar i hi).2.2) hlocks hM dSG_hasOrder_26 (⟨by unfold enO; first | rw [if_neg h1] | rw [if_pos h1, if_neg h12] | rw [if_pos h1, if_pos h12], rfl⟩)
set_option maxHeartbeats 800000 in
set_option maxRecDepth 100000 in
theorem mRT_readSign (l : Launch) (g : kG) (μ : km_M) {ta ba sa oa ln ai zi : Nat} (ht : μ ta = some (.inr (1, [.ref ba, .ref sa, .ref oa, .int (nI ln), .int (nI ai), .int (nI zi)]))) {B : Nat → Nat} (hB : ∀ k, B k < 256) (hb0 : μ ba = some (.inl (g.2.2.1 0, 400, .inl (fun j => sb (B j))))) (hai : ai ≤ zi) (hzi : zi ≤ 400) : Met l yRT_readSign (Cond.code yRT_readSign cRT_readSign 1 (some (.object "VersionRanges$Sign")) :: Wd) ({ frames := 1, cells := 0, slots := 0, locals := 21 } : Room) (kPre g μ [.ref ta]) (kQr g (fun (r : Nat) (μ1 : km_M) => r = g.2.2.2.1 (sgP B ai zi).1 ∧ μ1 = km_up μ ta (.inr (1, [.ref ba, .ref sa, .ref oa, .int (nI ln), .int (nI ((sgP B ai zi).2)), .int (nI zi)])))) 0 0 (kF g) := by
  refine k_met (by decide) (Nat.le_of_ble_eq_true rfl) ?_
  intro p e s m below meth c hx hb hr hlocks hml hown hnm hW ls hl H locs hM
  have hl : lv_has ls 1 [(0, .ref ta)] := hl
  refine lv_aload_n hx hb dRT_readSign_0 rfl (lv_at hl 0 rfl) ?_
  refine lv_bipush (v := nI 42) hx hb dRT_readSign_1 (by decide) ?_
  refine kc_i (va_runVN (C := RTP) (As := [.int (nI 42)]) (b := ta) (rest := []) (Ts := Wd) ⟨hx, hb, hml, hown, hW⟩ (mTP_skip l g μ ht hB hb0 (ch := 42) (by omega) (by omega) (by omega)) ⟨(va_cnB 1 hW (k_gC w_149) rfl rfl rfl (hM.2.1.2.1 _ n_237) (hW _ w_2) (by decide +kernel) ⟨Nat.le_of_ble_eq_true rfl, Nat.le_of_ble_eq_true rfl⟩), hW _ w_148, hW _ p_6⟩ (k_preV (q := (RTP, TTP, 6)) hM ht rfl) rfl rfl hl.1 rfl (lv_room (Nat.le_of_ble_eq_true rfl)) dRT_readSign_3 ⟨Nat.zero_le _, Nat.zero_le _⟩) hM (fun r μ1 H locs hp hM => ?_)
  obtain ⟨rfl, hmu⟩ := hp
  rw [hmu] at hM
  rcases Decidable.em (ai < zi ∧ B ai = 42) with hs1 | hs1
  · refine topi_eq (y := nI 1) (bI_t hs1).symm ?_
    rw [if_pos hs1] at hM
    have hd1 := vDot_t hs1
    have hM : kS g (km_up μ ta (.inr (1, [.ref ba, .ref sa, .ref oa, .int (nI ln), .int (nI (ai + 1)), .int (nI zi)]))) s H locs := hM
    refine lv_if_eq (tgt := 13) hx hb dRT_readSign_6 (by decide) (fun h => absurd h (by decide)) (fun _ => ?_)
    refine va_gets (C := "VersionRanges$Sign") (n := "ALL") (d := "LVersionRanges$Sign;") (v := .ref (g.2.2.2.1 0)) hx hb (hM.2.1.2.2.1.1 0 (by decide)).1 hM.2.2.2 hown (hW _ w_82) (fun _ h => h) dRT_readSign_9 ?_
    exact kr_r hx hb hr (Or.inl ⟨_, rfl⟩) hlocks hM dRT_readSign_12 (⟨by rw [show sgP B ai zi = (0, ai + 1) by unfold sgP; rw [if_pos hs1]], by rw [show sgP B ai zi = (0, ai + 1) by unfold sgP; rw [if_pos hs1]]; first | done | exact rfl⟩)
  · refine topi_eq (y := nI 0) (bI_f hs1).symm ?_
    rw [if_neg hs1] at hM
    have hd1 := vDot_f hs1
    refine lv_if_eq (tgt := 13) hx hb dRT_readSign_6 (by decide) (fun _ => ?_) (fun h => absurd (by decide) h)
    refine lv_aload_n hx hb dRT_readSign_13 rfl (lv_at hl 0 rfl) ?_
    refine lv_bipush (v := nI 60) hx hb dRT_readSign_14 (by decide) ?_
    refine kc_i (va_runVN (C := RTP) (As := [.int (nI 60)]) (b := ta) (rest := []) (Ts := Wd) ⟨hx, hb, hml, hown, hW⟩ (mTP_skip l g μ ht hB hb0 (ch := 60) (by omega) (by omega) (by omega)) ⟨(va_cnB 1 hW (k_gC w_149) rfl rfl rfl (hM.2.1.2.1 _ n_237) (hW _ w_2) (by decide +kernel) ⟨Nat.le_of_ble_eq_true rfl, Nat.le_of_ble_eq_true rfl⟩), hW _ w_148, hW _ p_6⟩ (k_preV (q := (RTP, TTP, 6)) hM ht rfl) rfl rfl hl.1 rfl (lv_room (Nat.le_of_ble_eq_true rfl)) dRT_readSign_16 ⟨Nat.zero_le _, Nat.zero_le _⟩) hM (fun r μ1 H locs hp hM => ?_)
    obtain ⟨rfl, hmu⟩ := hp
    rw [hmu] at hM
    rcases Decidable.em (ai < zi ∧ B ai = 60) with hs2 | hs2
    · refine topi_eq (y := nI 1) (bI_t hs2).symm ?_
      rw [if_pos hs2] at hM
      have hd2 := vDot_t hs2
      have hM : kS g (km_up μ ta (.inr (1, [.ref ba, .ref sa, .ref oa, .int (nI ln), .int (nI (ai + 1)), .int (nI zi)]))) s H locs := hM
      refine lv_if_eq (tgt := 41) hx hb dRT_readSign_19 (by decide) (fun h => absurd h (by decide)) (fun _ => ?_)
      refine lv_aload_n hx hb dRT_readSign_22 rfl (lv_at hl 0 rfl) ?_
      refine lv_bipush (v := nI 61) hx hb dRT_readSign_23 (by decide) ?_
      refine kc_i (va_runVN (C := RTP) (As := [.int (nI 61)]) (b := ta) (rest := []) (Ts := Wd) ⟨hx, hb, hml, hown, hW⟩ (mTP_skip l g (km_up μ ta (.inr (1, [.ref ba, .ref sa, .ref oa, .int (nI ln), .int (nI (ai + 1)), .int (nI zi)]))) (km_s _ _ _) hB ((km_n (km_apA hb0 ht)).trans hb0) (ch := 61) (by omega) (by omega) (by omega)) ⟨(va_cnB 1 hW (k_gC w_149) rfl rfl rfl (hM.2.1.2.1 _ n_237) (hW _ w_2) (by decide +kernel) ⟨Nat.le_of_ble_eq_true rfl, Nat.le_of_ble_eq_true rfl⟩), hW _ w_148, hW _ p_6⟩ (k_preV (q := (RTP, TTP, 6)) hM (km_s _ _ _) rfl) rfl rfl hl.1 rfl (lv_room (Nat.le_of_ble_eq_true rfl)) dRT_readSign_25 ⟨Nat.zero_le _, Nat.zero_le _⟩) hM (fun r μ1 H locs hp hM => ?_)
      obtain ⟨rfl, hmu⟩ := hp
      rw [hmu] at hM
      rcases Decidable.em (ai + 1 < zi ∧ B (ai + 1) = 61) with hs3 | hs3
      · refine topi_eq (y := nI 1) (bI_t hs3).symm ?_
        rw [if_pos hs3] at hM
        have hd3 := vDot_t hs3
        have hM : kS g (km_up μ ta (.inr (1, [.ref ba, .ref sa, .ref oa, .int (nI ln), .int (nI (ai + 2)), .int (nI zi)]))) s H locs := kS_eq (km_u1 _ _ _ _) hM
        refine lv_if_eq (tgt := 37) hx hb dRT_readSign_28 (by decide) (fun h => absurd h (by decide)) (fun _ => ?_)
        refine va_gets (C := "VersionRanges$Sign") (n := "AT_OR_BELOW") (d := "LVersionRanges$Sign;") (v := .ref (g.2.2.2.1 3)) hx hb (hM.2.1.2.2.1.1 3 (by decide)).1 hM.2.2.2 hown (hW _ w_238) (fun _ h => h) dRT_readSign_31 ?_
        refine lv_goto (tgt := 40) hx hb dRT_readSign_34 (by decide) ?_
        exact kr_r hx hb hr (Or.inl ⟨_, rfl⟩) hlocks hM dRT_readSign_40 (⟨by rw [show sgP B ai zi = (3, ai + 2) by unfold sgP; rw [if_neg hs1, if_pos hs2, if_pos hs3]], by rw [show sgP B ai zi = (3, ai + 2) by unfold sgP; rw [if_neg hs1, if_pos hs2, if_pos hs3]]; first | done | exact rfl⟩)
      · refine topi_eq (y := nI 0) (bI_f hs3).symm ?_
        rw [if_neg hs3] at hM
        have hd3 := vDot_f hs3
        refine lv_if_eq (tgt := 37) hx hb dRT_readSign_28 (by decide) (fun _ => ?_) (fun h => absurd (by decide) h)
        refine va_gets (C := "VersionRanges$Sign") (n := "BELOW") (d := "LVersionRanges$Sign;") (v := .ref (g.2.2.2.1 2)) hx hb (hM.2.1.2.2.1.1 2 (by decide)).1 hM.2.2.2 hown (hW _ w_240) (fun _ h => h) dRT_readSign_37 ?_
        exact kr_r hx hb hr (Or.inl ⟨_, rfl⟩) hlocks hM dRT_readSign_40 (⟨by rw [show sgP B ai zi = (2, ai + 1) by unfold sgP; rw [if_neg hs1, if_pos hs2, if_neg hs3]], by rw [show sgP B ai zi = (2, ai + 1) by unfold sgP; rw [if_neg hs1, if_pos hs2, if_neg hs3]]; first | done | exact rfl⟩)
    · refine topi_eq (y := nI 0) (bI_f hs2).symm ?_
      rw [if_neg hs2] at hM
      have hd2 := vDot_f hs2
      refine lv_if_eq (tgt := 41) hx hb dRT_readSign_19 (by decide) (fun _ => ?_) (fun h => absurd (by decide) h)
      refine lv_aload_n hx hb dRT_readSign_41 rfl (lv_at hl 0 rfl) ?_
      refine lv_bipush (v := nI 62) hx hb dRT_readSign_42 (by decide) ?_
      refine kc_i (va_runVN (C := RTP) (As := [.int (nI 62)]) (b := ta) (rest := []) (Ts := Wd) ⟨hx, hb, hml, hown, hW⟩ (mTP_skip l g μ ht hB hb0 (ch := 62) (by omega) (by omega) (by omega)) ⟨(va_cnB 1 hW (k_gC w_149) rfl rfl rfl (hM.2.1.2.1 _ n_237) (hW _ w_2) (by decide +kernel) ⟨Nat.le_of_ble_eq_true rfl, Nat.le_of_ble_eq_true rfl⟩), hW _ w_148, hW _ p_6⟩ (k_preV (q := (RTP, TTP, 6)) hM ht rfl) rfl rfl hl.1 rfl (lv_room (Nat.le_of_ble_eq_true rfl)) dRT_readSign_44 ⟨Nat.zero_le _, Nat.zero_le _⟩) hM (fun r μ1 H locs hp hM => ?_)
      obtain ⟨rfl, hmu⟩ := hp
      rw [hmu] at hM
      rcases Decidable.em (ai < zi ∧ B ai = 62) with hs4 | hs4
      · refine topi_eq (y := nI 1) (bI_t hs4).symm ?_
        rw [if_pos hs4] at hM
        have hd4 := vDot_t hs4
        have hM : kS g (km_up μ ta (.inr (1, [.ref ba, .ref sa, .ref oa, .int (nI ln), .int (nI (ai + 1)), .int (nI zi)]))) s H locs := hM
        refine lv_if_eq (tgt := 69) hx hb dRT_readSign_47 (by decide) (fun h => absurd h (by decide)) (fun _ => ?_)
        refine lv_aload_n hx hb dRT_readSign_50 rfl (lv_at hl 0 rfl) ?_
        refine lv_bipush (v := nI 61) hx hb dRT_readSign_51 (by decide) ?_
        refine kc_i (va_runVN (C := RTP) (As := [.int (nI 61)]) (b := ta) (rest := []) (Ts := Wd) ⟨hx, hb, hml, hown, hW⟩ (mTP_skip l g (km_up μ ta (.inr (1, [.ref ba, .ref sa, .ref oa, .int (nI ln), .int (nI (ai + 1)), .int (nI zi)]))) (km_s _ _ _) hB ((km_n (km_apA hb0 ht)).trans hb0) (ch := 61) (by omega) (by omega) (by omega)) ⟨(va_cnB 1 hW (k_gC w_149) rfl rfl rfl (hM.2.1.2.1 _ n_237) (hW _ w_2) (by decide +kernel) ⟨Nat.le_of_ble_eq_true rfl, Nat.le_of_ble_eq_true rfl⟩), hW _ w_148, hW _ p_6⟩ (k_preV (q := (RTP, TTP, 6)) hM (km_s _ _ _) rfl) rfl rfl hl.1 rfl (lv_room (Nat.le_of_ble_eq_true rfl)) dRT_readSign_53 ⟨Nat.zero_le _, Nat.zero_le _⟩) hM (fun r μ1 H locs hp hM => ?_)
        obtain ⟨rfl, hmu⟩ := hp
        rw [hmu] at hM
        rcases Decidable.em (ai + 1 < zi ∧ B (ai + 1) = 61) with hs5 | hs5
        · refine topi_eq (y := nI 1) (bI_t hs5).symm ?_
          rw [if_pos hs5] at hM
          have hd5 := vDot_t hs5
          have hM : kS g (km_up μ ta (.inr (1, [.ref ba, .ref sa, .ref oa, .int (nI ln), .int (nI (ai + 2)), .int (nI zi)]))) s H locs := kS_eq (km_u1 _ _ _ _) hM
          refine lv_if_eq (tgt := 65) hx hb dRT_readSign_56 (by decide) (fun h => absurd h (by decide)) (fun _ => ?_)
          refine va_gets (C := "VersionRanges$Sign") (n := "AT_OR_ABOVE") (d := "LVersionRanges$Sign;") (v := .ref (g.2.2.2.1 5)) hx hb (hM.2.1.2.2.1.1 5 (by decide)).1 hM.2.2.2 hown (hW _ w_242) (fun _ h => h) dRT_readSign_59 ?_
          refine lv_goto (tgt := 68) hx hb dRT_readSign_62 (by decide) ?_
          exact kr_r hx hb hr (Or.inl ⟨_, rfl⟩) hlocks hM dRT_readSign_68 (⟨by rw [show sgP B ai zi = (5, ai + 2) by unfold sgP; rw [if_neg hs1, if_neg hs2, if_pos hs4, if_pos hs5]], by rw [show sgP B ai zi = (5, ai + 2) by unfold sgP; rw [if_neg hs1, if_neg hs2, if_pos hs4, if_pos hs5]]; first | done | exact rfl⟩)
        · refine topi_eq (y := nI 0) (bI_f hs5).symm ?_
          rw [if_neg hs5] at hM
          have hd5 := vDot_f hs5
          refine lv_if_eq (tgt := 65) hx hb dRT_readSign_56 (by decide) (fun _ => ?_) (fun h => absurd (by decide) h)
          refine va_gets (C := "VersionRanges$Sign") (n := "ABOVE") (d := "LVersionRanges$Sign;") (v := .ref (g.2.2.2.1 4)) hx hb (hM.2.1.2.2.1.1 4 (by decide)).1 hM.2.2.2 hown (hW _ w_244) (fun _ h => h) dRT_readSign_65 ?_
          exact kr_r hx hb hr (Or.inl ⟨_, rfl⟩) hlocks hM dRT_readSign_68 (⟨by rw [show sgP B ai zi = (4, ai + 1) by unfold sgP; rw [if_neg hs1, if_neg hs2, if_pos hs4, if_neg hs5]], by rw [show sgP B ai zi = (4, ai + 1) by unfold sgP; rw [if_neg hs1, if_neg hs2, if_pos hs4, if_neg hs5]]; first | done | exact rfl⟩)
      · refine topi_eq (y := nI 0) (bI_f hs4).symm ?_
        rw [if_neg hs4] at hM
        have hd4 := vDot_f hs4
        refine lv_if_eq (tgt := 69) hx hb dRT_readSign_47 (by decide) (fun _ => ?_) (fun h => absurd (by decide) h)
        refine lv_aload_n hx hb dRT_readSign_69 rfl (lv_at hl 0 rfl) ?_
        refine lv_bipush (v := nI 94) hx hb dRT_readSign_70 (by decide) ?_
        refine kc_i (va_runVN (C := RTP) (As := [.int (nI 94)]) (b := ta) (rest := []) (Ts := Wd) ⟨hx, hb, hml, hown, hW⟩ (mTP_skip l g μ ht hB hb0 (ch := 94) (by omega) (by omega) (by omega)) ⟨(va_cnB 1 hW (k_gC w_149) rfl rfl rfl (hM.2.1.2.1 _ n_237) (hW _ w_2) (by decide +kernel) ⟨Nat.le_of_ble_eq_true rfl, Nat.le_of_ble_eq_true rfl⟩), hW _ w_148, hW _ p_6⟩ (k_preV (q := (RTP, TTP, 6)) hM ht rfl) rfl rfl hl.1 rfl (lv_room (Nat.le_of_ble_eq_true rfl)) dRT_readSign_72 ⟨Nat.zero_le _, Nat.zero_le _⟩) hM (fun r μ1 H locs hp hM => ?_)
        obtain ⟨rfl, hmu⟩ := hp
        rw [hmu] at hM
        rcases Decidable.em (ai < zi ∧ B ai = 94) with hs6 | hs6
        · refine topi_eq (y := nI 1) (bI_t hs6).symm ?_
          rw [if_pos hs6] at hM
          have hd6 := vDot_t hs6
          have hM : kS g (km_up μ ta (.inr (1, [.ref ba, .ref sa, .ref oa, .int (nI ln), .int (nI (ai + 1)), .int (nI zi)]))) s H locs := hM
          refine lv_if_eq (tgt := 82) hx hb dRT_readSign_75 (by decide) (fun h => absurd h (by decide)) (fun _ => ?_)
          refine va_gets (C := "VersionRanges$Sign") (n := "CARET") (d := "LVersionRanges$Sign;") (v := .ref (g.2.2.2.1 6)) hx hb (hM.2.1.2.2.1.1 6 (by decide)).1 hM.2.2.2 hown (hW _ w_246) (fun _ h => h) dRT_readSign_78 ?_
          exact kr_r hx hb hr (Or.inl ⟨_, rfl⟩) hlocks hM dRT_readSign_81 (⟨by rw [show sgP B ai zi = (6, ai + 1) by unfold sgP; rw [if_neg hs1, if_neg hs2, if_neg hs4, if_pos hs6]], by rw [show sgP B ai zi = (6, ai + 1) by unfold sgP; rw [if_neg hs1, if_neg hs2, if_neg hs4, if_pos hs6]]; first | done | exact rfl⟩)
        · refine topi_eq (y := nI 0) (bI_f hs6).symm ?_
          rw [if_neg hs6] at hM
          have hd6 := vDot_f hs6
          refine lv_if_eq (tgt := 82) hx hb dRT_readSign_75 (by decide) (fun _ => ?_) (fun h => absurd (by decide) h)
          refine lv_aload_n hx hb dRT_readSign_82 rfl (lv_at hl 0 rfl) ?_
          refine lv_bipush (v := nI 126) hx hb dRT_readSign_83 (by decide) ?_
          refine kc_i (va_runVN (C := RTP) (As := [.int (nI 126)]) (b := ta) (rest := []) (Ts := Wd) ⟨hx, hb, hml, hown, hW⟩ (mTP_skip l g μ ht hB hb0 (ch := 126) (by omega) (by omega) (by omega)) ⟨(va_cnB 1 hW (k_gC w_149) rfl rfl rfl (hM.2.1.2.1 _ n_237) (hW _ w_2) (by decide +kernel) ⟨Nat.le_of_ble_eq_true rfl, Nat.le_of_ble_eq_true rfl⟩), hW _ w_148, hW _ p_6⟩ (k_preV (q := (RTP, TTP, 6)) hM ht rfl) rfl rfl hl.1 rfl (lv_room (Nat.le_of_ble_eq_true rfl)) dRT_readSign_85 ⟨Nat.zero_le _, Nat.zero_le _⟩) hM (fun r μ1 H locs hp hM => ?_)
          obtain ⟨rfl, hmu⟩ := hp
          rw [hmu] at hM
          rcases Decidable.em (ai < zi ∧ B ai = 126) with hs7 | hs7
          · refine topi_eq (y := nI 1) (bI_t hs7).symm ?_
            rw [if_pos hs7] at hM
            have hd7 := vDot_t hs7
            have hM : kS g (km_up μ ta (.inr (1, [.ref ba, .ref sa, .ref oa, .int (nI ln), .int (nI (ai + 1)), .int (nI zi)]))) s H locs := hM
            refine lv_if_eq (tgt := 95) hx hb dRT_readSign_88 (by decide) (fun h => absurd h (by decide)) (fun _ => ?_)
            refine va_gets (C := "VersionRanges$Sign") (n := "TILDE") (d := "LVersionRanges$Sign;") (v := .ref (g.2.2.2.1 7)) hx hb (hM.2.1.2.2.1.1 7 (by decide)).1 hM.2.2.2 hown (hW _ w_248) (fun _ h => h) dRT_readSign_91 ?_
            exact kr_r hx hb hr (Or.inl ⟨_, rfl⟩) hlocks hM dRT_readSign_94 (⟨by rw [show sgP B ai zi = (7, ai + 1) by unfold sgP; rw [if_neg hs1, if_neg hs2, if_neg hs4, if_neg hs6, if_pos hs7]], by rw [show sgP B ai zi = (7, ai + 1) by unfold sgP; rw [if_neg hs1, if_neg hs2, if_neg hs4, if_neg hs6, if_pos hs7]]; first | done | exact rfl⟩)
          · refine topi_eq (y := nI 0) (bI_f hs7).symm ?_
            rw [if_neg hs7] at hM
            have hd7 := vDot_f hs7
            refine lv_if_eq (tgt := 95) hx hb dRT_readSign_88 (by decide) (fun _ => ?_) (fun h => absurd (by decide) h)
            refine lv_aload_n hx hb dRT_readSign_95 rfl (lv_at hl 0 rfl) ?_
            refine lv_bipush (v := nI 61) hx hb dRT_readSign_96 (by decide) ?_
            refine kc_i (va_runVN (C := RTP) (As := [.int (nI 61)]) (b := ta) (rest := []) (Ts := Wd) ⟨hx, hb, hml, hown, hW⟩ (mTP_skip l g μ ht hB hb0 (ch := 61) (by omega) (by omega) (by omega)) ⟨(va_cnB 1 hW (k_gC w_149) rfl rfl rfl (hM.2.1.2.1 _ n_237) (hW _ w_2) (by decide +kernel) ⟨Nat.le_of_ble_eq_true rfl, Nat.le_of_ble_eq_true rfl⟩), hW _ w_148, hW _ p_6⟩ (k_preV (q := (RTP, TTP, 6)) hM ht rfl) rfl rfl hl.1 rfl (lv_room (Nat.le_of_ble_eq_true rfl)) dRT_readSign_98 ⟨Nat.zero_le _, Nat.zero_le _⟩) hM (fun r μ1 H locs hp hM => ?_)
            obtain ⟨rfl, hmu⟩ := hp
            rw [hmu] at hM
            rcases Decidable.em (ai < zi ∧ B ai = 61) with hs8 | hs8
            · refine topi_eq (y := nI 1) (bI_t hs8).symm ?_
              rw [if_pos hs8] at hM
              have hd8 := vDot_t hs8
              have hM : kS g (km_up μ ta (.inr (1, [.ref ba, .ref sa, .ref oa, .int (nI ln), .int (nI (ai + 1)), .int (nI zi)]))) s H locs := hM
              refine lv_pop hx hb dRT_readSign_101 rfl ?_
              refine va_gets (C := "VersionRanges$Sign") (n := "SAME") (d := "LVersionRanges$Sign;") (v := .ref (g.2.2.2.1 1)) hx hb (hM.2.1.2.2.1.1 1 (by decide)).1 hM.2.2.2 hown (hW _ w_250) (fun _ h => h) dRT_readSign_102 ?_
              exact kr_r hx hb hr (Or.inl ⟨_, rfl⟩) hlocks hM dRT_readSign_105 (⟨by rw [show sgP B ai zi = (1, ai + 1) by unfold sgP; rw [if_neg hs1, if_neg hs2, if_neg hs4, if_neg hs6, if_neg hs7, if_pos hs8]], by rw [show sgP B ai zi = (1, ai + 1) by unfold sgP; rw [if_neg hs1, if_neg hs2, if_neg hs4, if_neg hs6, if_neg hs7, if_pos hs8]]; first | done | exact rfl⟩)
            · refine topi_eq (y := nI 0) (bI_f hs8).symm ?_
              rw [if_neg hs8] at hM
              have hd8 := vDot_f hs8
              refine lv_pop hx hb dRT_readSign_101 rfl ?_
              refine va_gets (C := "VersionRanges$Sign") (n := "SAME") (d := "LVersionRanges$Sign;") (v := .ref (g.2.2.2.1 1)) hx hb (hM.2.1.2.2.1.1 1 (by decide)).1 hM.2.2.2 hown (hW _ w_250) (fun _ h => h) dRT_readSign_102 ?_
              exact kr_r hx hb hr (Or.inl ⟨_, rfl⟩) hlocks hM dRT_readSign_105 (⟨by rw [show sgP B ai zi = (1, ai) by unfold sgP; rw [if_neg hs1, if_neg hs2, if_neg hs4, if_neg hs6, if_neg hs7, if_neg hs8]], by rw [show sgP B ai zi = (1, ai) by unfold sgP; rw [if_neg hs1, if_neg hs2, if_neg hs4, if_neg hs6, if_neg hs7, if_neg hs8]]; first | done | exact (km_id ht).symm⟩)
set_option maxHeartbeats 800000 in
set_option maxRecDepth 100000 in
theorem mRT_setCeiling (l : Launch) (g : kG) (μ : km_M) {te bo co k : Nat} (hte : μ te = some (.inr (0, [.ref bo, .ref co, .ref (g.2.2.2.1 k)]))) (hk8 : k < 8) {br bp : Nat} {Fb : Nat → Int64} (hbo : μ bo = some (.inr (2, [.ref br, .int (nI bp)]))) (hbr : μ br = some (.inl (g.2.2.1 2, 7, .inr (.inl Fb)))) {cr cp : Nat} {Fc : Nat → Int64} (hco : μ co = some (.inr (2, [.ref cr, .int (nI cp)]))) (hcr : μ cr = some (.inl (g.2.2.1 2, 7, .inr (.inl Fc)))) (nbc : bo ≠ co) (nrc : br ≠ cr) {x y w : Nat} (hF0 : Fb 0 = lN x) (hF1 : Fb 1 = lN y) (hF2 : Fb 2 = lN w) (hx0 : x < 1000000000) (hy0 : y < 1000000000) (hw0 : w < 1000000000) : Met l yRT_setCeiling (Cond.code yRT_setCeiling cRT_setCeiling 7 none :: Wd) ({ frames := 2, cells := 0, slots := 0, locals := 47 } : Room) (kPre g μ [.ref te]) (kQv g (fun (μ1 : km_M) => μ1 = km_up (km_up μ cr (.inl (g.2.2.1 2, 7, .inr (.inl (n3F Fc (ceT k x y w)))))) co (.inr (2, [.ref cr, .int (nI 0)])))) 0 0 (kF g) := by
  refine k_met (by decide) (Nat.le_of_ble_eq_true rfl) ?_
  intro p e s m below meth c hx hb hr hlocks hml hown hnm hW ls hl H locs hM
  have hl : lv_has ls 7 [(0, .ref te)] := hl
  refine lv_aload_n hx hb dRT_setCeiling_0 rfl (lv_at hl 0 rfl) ?_
  refine k_get (own := RRT) (ref := RRT) (C := RRT) (T := TRT) (N := 3) (ci := 0) (v := .ref bo) hx hb hW inRT hown hM hte rfl 0 (by decide) (hW _ w_84) (fun _ h => h) rfl dRT_setCeiling_1 ?_
  refine lv_iconst (v := nI 0) hx hb dRT_setCeiling_4 (by decide) ?_
  refine kc_i (va_runVN (C := RVE) (As := [.int (nI 0)]) (b := bo) (rest := []) (Ts := Wd) ⟨hx, hb, hml, hown, hW⟩ (mVE_number l g μ hbo hbr (k := 0) (by omega)) ⟨(va_cnB 1 hW (k_gC w_209) rfl rfl rfl (hM.2.1.2.1 _ n_258) (hW _ w_3) (by decide +kernel) ⟨Nat.le_of_ble_eq_true rfl, Nat.le_of_ble_eq_true rfl⟩), hW _ w_208, hW _ p_16⟩ (k_preV (q := (RVE, TVE, 2)) hM hbo rfl) rfl rfl hl.1 rfl (lv_room (Nat.le_of_ble_eq_true rfl)) dRT_setCeiling_5 ⟨Nat.zero_le _, Nat.zero_le _⟩) hM (fun r μ1 H locs hp hM => ?_)
  obtain ⟨rfl, hmu⟩ := hp
  rw [hmu] at hM
  refine topi_eq (y := nI x) (by rw [hF0]; exact lN_i _) ?_
  refine lv_i2l (v := lN x) hx hb dRT_setCeiling_8 (nI_l (by omega)) ?_
  refine lv_lstore_n (lv' := [(1, .long (lN x)), (0, .ref te)]) hx hb dRT_setCeiling_9 rfl hl (by decide) rfl (fun ls hl => ?_)
  refine lv_aload_n hx hb dRT_setCeiling_10 rfl (lv_at hl 1 rfl) ?_
  refine k_get (own := RRT) (ref := RRT) (C := RRT) (T := TRT) (N := 3) (ci := 0) (v := .ref bo) hx hb hW inRT hown hM hte rfl 0 (by decide) (hW _ w_84) (fun _ h => h) rfl dRT_setCeiling_11 ?_
  refine lv_iconst (v := nI 1) hx hb dRT_setCeiling_14 (by decide) ?_
  refine kc_i (va_runVN (C := RVE) (As := [.int (nI 1)]) (b := bo) (rest := []) (Ts := Wd) ⟨hx, hb, hml, hown, hW⟩ (mVE_number l g μ hbo hbr (k := 1) (by omega)) ⟨(va_cnB 1 hW (k_gC w_209) rfl rfl rfl (hM.2.1.2.1 _ n_258) (hW _ w_3) (by decide +kernel) ⟨Nat.le_of_ble_eq_true rfl, Nat.le_of_ble_eq_true rfl⟩), hW _ w_208, hW _ p_16⟩ (k_preV (q := (RVE, TVE, 2)) hM hbo rfl) rfl rfl hl.1 rfl (lv_room (Nat.le_of_ble_eq_true rfl)) dRT_setCeiling_15 ⟨Nat.zero_le _, Nat.zero_le _⟩) hM (fun r μ1 H locs hp hM => ?_)
  obtain ⟨rfl, hmu⟩ := hp
  rw [hmu] at hM
  refine topi_eq (y := nI y) (by rw [hF1]; exact lN_i _) ?_
  refine lv_i2l (v := lN y) hx hb dRT_setCeiling_18 (nI_l (by omega)) ?_
  refine lv_lstore_n (lv' := [(3, .long (lN y)), (1, .long (lN x)), (0, .ref te)]) hx hb dRT_setCeiling_19 rfl hl (by decide) rfl (fun ls hl => ?_)
  refine lv_aload_n hx hb dRT_setCeiling_20 rfl (lv_at hl 2 rfl) ?_
  refine k_get (own := RRT) (ref := RRT) (C := RRT) (T := TRT) (N := 3) (ci := 0) (v := .ref bo) hx hb hW inRT hown hM hte rfl 0 (by decide) (hW _ w_84) (fun _ h => h) rfl dRT_setCeiling_21 ?_
  refine lv_iconst (v := nI 2) hx hb dRT_setCeiling_24 (by decide) ?_
  refine kc_i (va_runVN (C := RVE) (As := [.int (nI 2)]) (b := bo) (rest := []) (Ts := Wd) ⟨hx, hb, hml, hown, hW⟩ (mVE_number l g μ hbo hbr (k := 2) (by omega)) ⟨(va_cnB 1 hW (k_gC w_209) rfl rfl rfl (hM.2.1.2.1 _ n_258) (hW _ w_3) (by decide +kernel) ⟨Nat.le_of_ble_eq_true rfl, Nat.le_of_ble_eq_true rfl⟩), hW _ w_208, hW _ p_16⟩ (k_preV (q := (RVE, TVE, 2)) hM hbo rfl) rfl rfl hl.1 rfl (lv_room (Nat.le_of_ble_eq_true rfl)) dRT_setCeiling_25 ⟨Nat.zero_le _, Nat.zero_le _⟩) hM (fun r μ1 H locs hp hM => ?_)
  obtain ⟨rfl, hmu⟩ := hp
  rw [hmu] at hM
  refine topi_eq (y := nI w) (by rw [hF2]; exact lN_i _) ?_
  refine lv_i2l (v := lN w) hx hb dRT_setCeiling_28 (nI_l (by omega)) ?_
  refine lv_lstore (lv' := [(5, .long (lN w)), (3, .long (lN y)), (1, .long (lN x)), (0, .ref te)]) hx hb dRT_setCeiling_29 hl (by decide) rfl (fun ls hl => ?_)
  refine lv_aload_n hx hb dRT_setCeiling_31 rfl (lv_at hl 3 rfl) ?_
  refine k_get (own := RRT) (ref := RRT) (C := RRT) (T := TRT) (N := 3) (ci := 0) (v := .ref (g.2.2.2.1 k)) hx hb hW inRT hown hM hte rfl 2 (by decide) (hW _ w_86) (fun _ h => h) rfl dRT_setCeiling_32 ?_
  refine va_gets (C := "VersionRanges$Sign") (n := "TILDE") (d := "LVersionRanges$Sign;") (v := .ref (g.2.2.2.1 7)) hx hb (hM.2.1.2.2.1.1 7 (by decide)).1 hM.2.2.2 hown (hW _ w_248) (fun _ h => h) dRT_setCeiling_35 ?_
  refine lv_acmp_ne (rx := some (g.2.2.2.1 k)) (ry := some (g.2.2.2.1 7)) (tgt := 56) hx hb dRT_setCeiling_38 (by decide) (fun h38 => ?_) (fun h38 => ?_)
  · have h38 : ¬ k = 7 := fun z => h38 (by rw [z])
    refine lv_lload_n hx hb dRT_setCeiling_56 rfl (lv_at hl 2 rfl) ?_
    refine lv_lconst (v := lN 0) hx hb dRT_setCeiling_57 (by decide) ?_
    refine W.lcmp hx hb dRT_setCeiling_58 ?_
    refine lv_if_le (tgt := 77) hx hb dRT_setCeiling_59 (by decide) (fun h59 => ?_) (fun h59 => ?_)
    · have h59 := (lJ_le_t (a := x) (b := 0) (by omega) (by omega)).mp h59
      refine lv_lload_n hx hb dRT_setCeiling_77 rfl (lv_at hl 1 rfl) ?_
      refine lv_lconst (v := lN 0) hx hb dRT_setCeiling_78 (by decide) ?_
      refine W.lcmp hx hb dRT_setCeiling_79 ?_
      refine lv_if_le (tgt := 98) hx hb dRT_setCeiling_80 (by decide) (fun h80 => ?_) (fun h80 => ?_)
      · have h80 := (lJ_le_t (a := y) (b := 0) (by omega) (by omega)).mp h80
        refine lv_aload_n hx hb dRT_setCeiling_98 rfl (lv_at hl 3 rfl) ?_
        refine k_get (own := RRT) (ref := RRT) (C := RRT) (T := TRT) (N := 3) (ci := 0) (v := .ref co) hx hb hW inRT hown hM hte rfl 1 (by decide) (hW _ w_85) (fun _ h => h) rfl dRT_setCeiling_99 ?_
        refine lv_lconst (v := lN 0) hx hb dRT_setCeiling_102 (by decide) ?_
        refine lv_lconst (v := lN 0) hx hb dRT_setCeiling_103 (by decide) ?_
        refine lv_lload hx hb dRT_setCeiling_104 (lv_at hl 0 rfl) ?_
        refine lv_lconst (v := lN 1) hx hb dRT_setCeiling_106 (by decide) ?_
        refine lv_ladd hx hb dRT_setCeiling_107 ?_
        refine topl_eq (y := lN (w + 1)) (lN_add _ _) ?_
        refine kc_v (va_runVN (C := RVE) (As := [.long (lN 0), .long (lN 0), .long (lN (w + 1))]) (b := co) (rest := []) (Ts := Wd) ⟨hx, hb, hml, hown, hW⟩ (mVE_setNumbers l g μ hco hcr (x := lN 0) (y := lN 0) (z := lN (w + 1))) ⟨(va_cnB 3 hW (k_gC w_262) rfl rfl rfl (hM.2.1.2.1 _ n_259) (hW _ w_3) (by decide +kernel) ⟨Nat.le_of_ble_eq_true rfl, Nat.le_of_ble_eq_true rfl⟩), hW _ w_261, hW _ p_22⟩ (k_preV (q := (RVE, TVE, 2)) hM hco rfl) rfl rfl hl.1 rfl (lv_room (Nat.le_of_ble_eq_true rfl)) dRT_setCeiling_108 ⟨Nat.zero_le _, Nat.zero_le _⟩) hM (fun μ1 H locs hp hM => ?_)
        rw [hp] at hM
        have hM : kS g (km_up (km_up μ cr (.inl (g.2.2.1 2, 7, .inr (.inl (n3F Fc (0, 0, (w + 1))))))) co (.inr (2, [.ref cr, .int (nI 0)]))) s H locs := hM
        exact kr_v hx hb hr hlocks hM dRT_setCeiling_111 (by rw [show ceT k x y w = _ by unfold ceT; first | rw [if_pos h38] | rw [if_neg h38, if_pos h59] | rw [if_neg h38, if_neg (Nat.not_lt.mpr h59), if_pos h80] | rw [if_neg h38, if_neg (Nat.not_lt.mpr h59), if_neg (Nat.not_lt.mpr h80)]])
      · have h80 := (lJ_le_f (a := y) (b := 0) (by omega) (by omega)).mp h80
        refine lv_aload_n hx hb dRT_setCeiling_83 rfl (lv_at hl 3 rfl) ?_
        refine k_get (own := RRT) (ref := RRT) (C := RRT) (T := TRT) (N := 3) (ci := 0) (v := .ref co) hx hb hW inRT hown hM hte rfl 1 (by decide) (hW _ w_85) (fun _ h => h) rfl dRT_setCeiling_84 ?_
        refine lv_lconst (v := lN 0) hx hb dRT_setCeiling_87 (by decide) ?_
        refine lv_lload_n hx hb dRT_setCeiling_88 rfl (lv_at hl 1 rfl) ?_
        refine lv_lconst (v := lN 1) hx hb dRT_setCeiling_89 (by decide) ?_
        refine lv_ladd hx hb dRT_setCeiling_90 ?_
        refine topl_eq (y := lN (y + 1)) (lN_add _ _) ?_
        refine lv_lconst (v := lN 0) hx hb dRT_setCeiling_91 (by decide) ?_
        refine kc_v (va_runVN (C := RVE) (As := [.long (lN 0), .long (lN (y + 1)), .long (lN 0)]) (b := co) (rest := []) (Ts := Wd) ⟨hx, hb, hml, hown, hW⟩ (mVE_setNumbers l g μ hco hcr (x := lN 0) (y := lN (y + 1)) (z := lN 0)) ⟨(va_cnB 3 hW (k_gC w_262) rfl rfl rfl (hM.2.1.2.1 _ n_259) (hW _ w_3) (by decide +kernel) ⟨Nat.le_of_ble_eq_true rfl, Nat.le_of_ble_eq_true rfl⟩), hW _ w_261, hW _ p_22⟩ (k_preV (q := (RVE, TVE, 2)) hM hco rfl) rfl rfl hl.1 rfl (lv_room (Nat.le_of_ble_eq_true rfl)) dRT_setCeiling_92 ⟨Nat.zero_le _, Nat.zero_le _⟩) hM (fun μ1 H locs hp hM => ?_)
        rw [hp] at hM
        have hM : kS g (km_up (km_up μ cr (.inl (g.2.2.1 2, 7, .inr (.inl (n3F Fc (0, (y + 1), 0)))))) co (.inr (2, [.ref cr, .int (nI 0)]))) s H locs := hM
        refine lv_goto (tgt := 111) hx hb dRT_setCeiling_95 (by decide) ?_
        exact kr_v hx hb hr hlocks hM dRT_setCeiling_111 (by rw [show ceT k x y w = _ by unfold ceT; first | rw [if_pos h38] | rw [if_neg h38, if_pos h59] | rw [if_neg h38, if_neg (Nat.not_lt.mpr h59), if_pos h80] | rw [if_neg h38, if_neg (Nat.not_lt.mpr h59), if_neg (Nat.not_lt.mpr h80)]])
    · have h59 := (lJ_le_f (a := x) (b := 0) (by omega) (by omega)).mp h59
      refine lv_aload_n hx hb dRT_setCeiling_62 rfl (lv_at hl 3 rfl) ?_
      refine k_get (own := RRT) (ref := RRT) (C := RRT) (T := TRT) (N := 3) (ci := 0) (v := .ref co) hx hb hW inRT hown hM hte rfl 1 (by decide) (hW _ w_85) (fun _ h => h) rfl dRT_setCeiling_63 ?_
      refine lv_lload_n hx hb dRT_setCeiling_66 rfl (lv_at hl 2 rfl) ?_
      refine lv_lconst (v := lN 1) hx hb dRT_setCeiling_67 (by decide) ?_
      refine lv_ladd hx hb dRT_setCeiling_68 ?_
      refine topl_eq (y := lN (x + 1)) (lN_add _ _) ?_
      refine lv_lconst (v := lN 0) hx hb dRT_setCeiling_69 (by decide) ?_
      refine lv_lconst (v := lN 0) hx hb dRT_setCeiling_70 (by decide) ?_
      refine kc_v (va_runVN (C := RVE) (As := [.long (lN (x + 1)), .long (lN 0), .long (lN 0)]) (b := co) (rest := []) (Ts := Wd) ⟨hx, hb, hml, hown, hW⟩ (mVE_setNumbers l g μ hco hcr (x := lN (x + 1)) (y := lN 0) (z := lN 0)) ⟨(va_cnB 3 hW (k_gC w_262) rfl rfl rfl (hM.2.1.2.1 _ n_259) (hW _ w_3) (by decide +kernel) ⟨Nat.le_of_ble_eq_true rfl, Nat.le_of_ble_eq_true rfl⟩), hW _ w_261, hW _ p_22⟩ (k_preV (q := (RVE, TVE, 2)) hM hco rfl) rfl rfl hl.1 rfl (lv_room (Nat.le_of_ble_eq_true rfl)) dRT_setCeiling_71 ⟨Nat.zero_le _, Nat.zero_le _⟩) hM (fun μ1 H locs hp hM => ?_)
      rw [hp] at hM
      have hM : kS g (km_up (km_up μ cr (.inl (g.2.2.1 2, 7, .inr (.inl (n3F Fc ((x + 1), 0, 0)))))) co (.inr (2, [.ref cr, .int (nI 0)]))) s H locs := hM
      refine lv_goto (tgt := 111) hx hb dRT_setCeiling_74 (by decide) ?_
      exact kr_v hx hb hr hlocks hM dRT_setCeiling_111 (by rw [show ceT k x y w = _ by unfold ceT; first | rw [if_pos h38] | rw [if_neg h38, if_pos h59] | rw [if_neg h38, if_neg (Nat.not_lt.mpr h59), if_pos h80] | rw [if_neg h38, if_neg (Nat.not_lt.mpr h59), if_neg (Nat.not_lt.mpr h80)]])
  · have h38 := k_enum hM hk8 (by decide) h38
    refine lv_aload_n hx hb dRT_setCeiling_41 rfl (lv_at hl 3 rfl) ?_
    refine k_get (own := RRT) (ref := RRT) (C := RRT) (T := TRT) (N := 3) (ci := 0) (v := .ref co) hx hb hW inRT hown hM hte rfl 1 (by decide) (hW _ w_85) (fun _ h => h) rfl dRT_setCeiling_42 ?_
    refine lv_lload_n hx hb dRT_setCeiling_45 rfl (lv_at hl 2 rfl) ?_
    refine lv_lload_n hx hb dRT_setCeiling_46 rfl (lv_at hl 1 rfl) ?_
    refine lv_lconst (v := lN 1) hx hb dRT_setCeiling_47 (by decide) ?_
    refine lv_ladd hx hb dRT_setCeiling_48 ?_
    refine topl_eq (y := lN (y + 1)) (lN_add _ _) ?_
    refine lv_lconst (v := lN 0) hx hb dRT_setCeiling_49 (by decide) ?_
    refine kc_v (va_runVN (C := RVE) (As := [.long (lN x), .long (lN (y + 1)), .long (lN 0)]) (b := co) (rest := []) (Ts := Wd) ⟨hx, hb, hml, hown, hW⟩ (mVE_setNumbers l g μ hco hcr (x := lN x) (y := lN (y + 1)) (z := lN 0)) ⟨(va_cnB 3 hW (k_gC w_262) rfl rfl rfl (hM.2.1.2.1 _ n_259) (hW _ w_3) (by decide +kernel) ⟨Nat.le_of_ble_eq_true rfl, Nat.le_of_ble_eq_true rfl⟩), hW _ w_261, hW _ p_22⟩ (k_preV (q := (RVE, TVE, 2)) hM hco rfl) rfl rfl hl.1 rfl (lv_room (Nat.le_of_ble_eq_true rfl)) dRT_setCeiling_50 ⟨Nat.zero_le _, Nat.zero_le _⟩) hM (fun μ1 H locs hp hM => ?_)
    rw [hp] at hM
    have hM : kS g (km_up (km_up μ cr (.inl (g.2.2.1 2, 7, .inr (.inl (n3F Fc (x, (y + 1), 0)))))) co (.inr (2, [.ref cr, .int (nI 0)]))) s H locs := hM
    refine lv_goto (tgt := 111) hx hb dRT_setCeiling_53 (by decide) ?_
    exact kr_v hx hb hr hlocks hM dRT_setCeiling_111 (by rw [show ceT k x y w = _ by unfold ceT; first | rw [if_pos h38] | rw [if_neg h38, if_pos h59] | rw [if_neg h38, if_neg (Nat.not_lt.mpr h59), if_pos h80] | rw [if_neg h38, if_neg (Nat.not_lt.mpr h59), if_neg (Nat.not_lt.mpr h80)]])
end
section
theorem n3F_row {G : Nat → Int64} {q : Nat × Nat × Nat} : ∀ k, k < 7 → n3F G q k = n3F (fun _ => 0) q k := seven rfl rfl rfl rfl rfl rfl rfl
theorem vDot_le {B : Nat → Nat} {a z ch a1 : Nat} (h : vDot B a z ch = some a1) : a1 ≤ z := by
  unfold vDot at h
  split at h
  · rename_i h1
    cases h
    omega
  · cases h
theorem vVer_lt {B : Nat → Nat} {a z : Nat} {v : kVer} (haz : a ≤ z) (h : vVer B a z = some v) : v.1 < 1000000000 ∧ v.2.1 < 1000000000 ∧ v.2.2.1 < 1000000000 := by
  have h3 : ∃ q, vThree B a z = some q ∧ q.1 = v.1 ∧ q.2.1 = v.2.1 ∧ q.2.2.1 = v.2.2.1 := by
    cases ht : vThree B a z with
    | none => rw [vVer_n3 ht] at h; cases h
    | some q =>
      obtain ⟨x, y, w, a3⟩ := q
      by_cases hz : a3 = z
      · rw [vVer_s ht hz] at h
        cases h
        exact ⟨_, rfl, rfl, rfl, rfl⟩
      · cases hd : vDot B a3 z 45 with
        | none => rw [vVer_d ht hz hd] at h; cases h
        | some a4 =>
          rw [vVer_p ht hz hd] at h
          cases hp : vPre B z 4 a4 with
          | none => rw [hp] at h; cases h
          | some ms =>
            rw [hp] at h
            cases h
            exact ⟨_, rfl, rfl, rfl, rfl⟩
  obtain ⟨q, hq, e1, e2, e3⟩ := h3
  rw [← e1, ← e2, ← e3]
  unfold vThree at hq
  rcases vNum_cases B haz with ⟨n0, -⟩ | ⟨x, b1, n0, -, l0, -, p0⟩
  · rw [n0] at hq; cases hq
  rw [n0, Option.bind_some] at hq
  cases d0 : vDot B b1 z 46 with
  | none => simp only [d0, Option.bind_none] at hq; cases hq
  | some b2 =>
    simp only [d0, Option.bind_some] at hq
    rcases vNum_cases B (vDot_le d0) with ⟨n1, -⟩ | ⟨y, b3, n1, -, l1, -, p1⟩
    · rw [n1] at hq; cases hq
    rw [n1, Option.bind_some] at hq
    cases d1 : vDot B b3 z 46 with
    | none => simp only [d1, Option.bind_none] at hq; cases hq
    | some b4 =>
      simp only [d1, Option.bind_some] at hq
      rcases vNum_cases B (vDot_le d1) with ⟨n2, -⟩ | ⟨w, b5, n2, -, l2, -, p2⟩
      · rw [n2] at hq; cases hq
      rw [n2, Option.bind_some] at hq
      cases hq
      exact ⟨l0, l1, l2⟩
theorem km_none {μ : km_M} {a x : Nat} {e : va_E} (h : km_up μ a e x = none) : x ≠ a ∧ μ x = none := by
  by_cases hx : x = a
  · rw [hx, km_s] at h
    cases h
  · rw [km_n hx] at h
    exact ⟨hx, h⟩
set_option maxHeartbeats 800000 in
set_option maxRecDepth 100000 in
theorem mTP_init (l : Launch) (g : kG) (μ : km_M) {ta : Nat} (ht : μ ta = some (.inr (1, [.null, .null, .null, .int (nI 0), .int (nI 0), .int (nI 0)]))) : Met l yTP_init (Cond.code yTP_init cTP_init 1 none :: Wd) ({ frames := 1, cells := 3, slots := 800, locals := 40 } : Room) (kPre g μ [.ref ta]) (kQv g (fun (μ1 : km_M) => ∃ ba sa oa, μ ba = none ∧ μ sa = none ∧ μ oa = none ∧ sa ≠ ba ∧ oa ≠ ba ∧ oa ≠ sa ∧ μ1 = km_up (km_up (km_up (km_up μ ba (.inl (g.2.2.1 0, 400, .inl (fun j => sb ((fun _ => 0) j))))) ta (.inr (1, [.ref ba, .ref sa, .ref oa, .int (nI 0), .int (nI 0), .int (nI 0)]))) sa (.inl (g.2.2.1 1, 200, .inl (fun j => nI ((fun _ => 0) j))))) oa (.inl (g.2.2.1 1, 200, .inl (fun j => nI ((fun _ => 0) j)))))) 3 800 (kF g) := by
  refine k_met (by decide) (Nat.le_of_ble_eq_true rfl) ?_
  intro p e s m below meth c hx hb hr hlocks hml hown hnm hW ls hl H locs hM
  have hl : lv_has ls 1 [(0, .ref ta)] := hl
  refine lv_aload_n hx hb dTP_init_0 rfl (lv_at hl 0 rfl) ?_
  refine W.objInit hx hb hown (hW _ w_33) (hW _ w_26) (hW _ w_27) rfl (by rw [hml]; exact hl.1) rfl dTP_init_1 (Nat.le_of_ble_eq_true rfl) (Nat.le_of_ble_eq_true rfl) ?_
  refine W.eq (g2 := F0 m 4 ls []) rfl ?_
  refine lv_aload_n hx hb dTP_init_4 rfl (lv_at hl 0 rfl) ?_
  refine lv_sipush (v := nI 400) hx hb dTP_init_5 (by decide) ?_
  refine k_newa (atype := .byte) (a0 := (400, .inl (fun j => sb ((fun _ => 0) j)))) (N' := 400) hx hb (hW _ w_56) rfl hM 0 rfl (fun cA => kz_s cA _) (by omega) (by decide) (show 0 + 1 ≤ 3 by omega) (show 0 + 400 ≤ 800 by omega) dTP_init_8 (fun q8 H hnq8 hM => ?_)
  have ne_ta_q8 : ta ≠ q8 := km_apF ht hnq8
  have hM : kS g (km_up μ q8 (.inl (g.2.2.1 0, 400, .inl (fun j => sb ((fun _ => 0) j))))) s H locs := hM
  refine W.widen (k := 1) (n := 400) (by omega) (by omega) ?_
  refine k_putF (own := RTP) (ref := RTP) (C := RTP) (T := TTP) (N := 6) (ci := 1) (v := .ref q8) (ty := .array .byte) (fs' := [.ref q8, .null, .null, .int (nI 0), .int (nI 0), .int (nI 0)]) hx hb hW inTP tyTP tyokTP nmokTP hown hM ((km_n ne_ta_q8).trans ht) rfl 0 (by decide) (hW _ w_34) (fun _ h => h) rfl hnm rfl (by decide +kernel) rfl rfl (Nat.le_of_ble_eq_true rfl) dTP_init_10 rfl (fun H locs hM => ?_)
  have hM : kS g (km_up (km_up μ q8 (.inl (g.2.2.1 0, 400, .inl (fun j => sb ((fun _ => 0) j))))) ta (.inr (1, [.ref q8, .null, .null, .int (nI 0), .int (nI 0), .int (nI 0)]))) s H locs := hM
  refine lv_aload_n hx hb dTP_init_13 rfl (lv_at hl 0 rfl) ?_
  refine lv_sipush (v := nI 200) hx hb dTP_init_14 (by decide) ?_
  refine k_newa (atype := .int) (a0 := (200, .inl (fun j => nI ((fun _ => 0) j)))) (N' := 200) hx hb (hW _ w_57) rfl hM 1 rfl (fun cA => kz_n rfl cA _) (by omega) (by decide) (show 1 + 1 ≤ 3 by omega) (show 400 + 200 ≤ 800 by omega) dTP_init_17 (fun q17 H hnq17 hM => ?_)
  have ne_ta_q17 : ta ≠ q17 := km_apF (km_s _ _ _) hnq17
  have ne_q8_q17 : q8 ≠ q17 := km_apF ((km_n (Ne.symm ne_ta_q8)).trans (km_s _ _ _)) hnq17
  have hM : kS g (km_up (km_up (km_up μ q8 (.inl (g.2.2.1 0, 400, .inl (fun j => sb ((fun _ => 0) j))))) ta (.inr (1, [.ref q8, .null, .null, .int (nI 0), .int (nI 0), .int (nI 0)]))) q17 (.inl (g.2.2.1 1, 200, .inl (fun j => nI ((fun _ => 0) j))))) s H locs := hM
  refine W.widen (k := 2) (n := 600) (by omega) (by omega) ?_
  refine k_putF (own := RTP) (ref := RTP) (C := RTP) (T := TTP) (N := 6) (ci := 1) (v := .ref q17) (ty := .array .int) (fs' := [.ref q8, .ref q17, .null, .int (nI 0), .int (nI 0), .int (nI 0)]) hx hb hW inTP tyTP tyokTP nmokTP hown hM ((km_n ne_ta_q17).trans (km_s _ _ _)) rfl 1 (by decide) (hW _ w_35) (fun _ h => h) rfl hnm rfl (by decide +kernel) rfl rfl (Nat.le_of_ble_eq_true rfl) dTP_init_19 rfl (fun H locs hM => ?_)
  have hM : kS g (km_up (km_up (km_up μ q8 (.inl (g.2.2.1 0, 400, .inl (fun j => sb ((fun _ => 0) j))))) ta (.inr (1, [.ref q8, .ref q17, .null, .int (nI 0), .int (nI 0), .int (nI 0)]))) q17 (.inl (g.2.2.1 1, 200, .inl (fun j => nI ((fun _ => 0) j))))) s H locs := kS_eq (km_u2 _ _ _ _ ne_ta_q17) hM
  refine lv_aload_n hx hb dTP_init_22 rfl (lv_at hl 0 rfl) ?_
  refine lv_sipush (v := nI 200) hx hb dTP_init_23 (by decide) ?_
  refine k_newa (atype := .int) (a0 := (200, .inl (fun j => nI ((fun _ => 0) j)))) (N' := 200) hx hb (hW _ w_57) rfl hM 1 rfl (fun cA => kz_n rfl cA _) (by omega) (by decide) (show 2 + 1 ≤ 3 by omega) (show 600 + 200 ≤ 800 by omega) dTP_init_26 (fun q26 H hnq26 hM => ?_)
  have ne_ta_q26 : ta ≠ q26 := km_apF ((km_n ne_ta_q17).trans (km_s _ _ _)) hnq26
  have ne_q8_q26 : q8 ≠ q26 := km_apF ((km_n ne_q8_q17).trans ((km_n (Ne.symm ne_ta_q8)).trans (km_s _ _ _))) hnq26
  have ne_q17_q26 : q17 ≠ q26 := km_apF (km_s _ _ _) hnq26
  have hM : kS g (km_up (km_up (km_up (km_up μ q8 (.inl (g.2.2.1 0, 400, .inl (fun j => sb ((fun _ => 0) j))))) ta (.inr (1, [.ref q8, .ref q17, .null, .int (nI 0), .int (nI 0), .int (nI 0)]))) q17 (.inl (g.2.2.1 1, 200, .inl (fun j => nI ((fun _ => 0) j))))) q26 (.inl (g.2.2.1 1, 200, .inl (fun j => nI ((fun _ => 0) j))))) s H locs := hM
  refine W.widen (k := 3) (n := 800) (by omega) (by omega) ?_
  refine k_putF (own := RTP) (ref := RTP) (C := RTP) (T := TTP) (N := 6) (ci := 1) (v := .ref q26) (ty := .array .int) (fs' := [.ref q8, .ref q17, .ref q26, .int (nI 0), .int (nI 0), .int (nI 0)]) hx hb hW inTP tyTP tyokTP nmokTP hown hM ((km_n ne_ta_q26).trans ((km_n ne_ta_q17).trans (km_s _ _ _))) rfl 2 (by decide) (hW _ w_36) (fun _ h => h) rfl hnm rfl (by decide +kernel) rfl rfl (Nat.le_of_ble_eq_true rfl) dTP_init_28 rfl (fun H locs hM => ?_)
  have hM : kS g (km_up (km_up (km_up (km_up μ q8 (.inl (g.2.2.1 0, 400, .inl (fun j => sb ((fun _ => 0) j))))) ta (.inr (1, [.ref q8, .ref q17, .ref q26, .int (nI 0), .int (nI 0), .int (nI 0)]))) q17 (.inl (g.2.2.1 1, 200, .inl (fun j => nI ((fun _ => 0) j))))) q26 (.inl (g.2.2.1 1, 200, .inl (fun j => nI ((fun _ => 0) j))))) s H locs := kS_eq (km_u3 _ _ _ _ _ ne_ta_q17 ne_ta_q26) hM
  refine lv_aload_n hx hb dTP_init_31 rfl (lv_at hl 0 rfl) ?_
  refine lv_iconst (v := nI 0) hx hb dTP_init_32 (by decide) ?_
  refine k_put (own := RTP) (ref := RTP) (C := RTP) (T := TTP) (N := 6) (ci := 1) (v := .int (nI 0)) (ty := .int) (fs' := [.ref q8, .ref q17, .ref q26, .int (nI 0), .int (nI 0), .int (nI 0)]) hx hb hW inTP tyTP tyokTP nmokTP hown hM ((km_n ne_ta_q26).trans ((km_n ne_ta_q17).trans (km_s _ _ _))) rfl 3 (by decide) (hW _ w_37) (fun _ h => h) rfl (by decide +kernel) rfl rfl (Nat.le_of_ble_eq_true rfl) dTP_init_33 rfl (fun H locs hM => ?_)
  have hM : kS g (km_up (km_up (km_up (km_up μ q8 (.inl (g.2.2.1 0, 400, .inl (fun j => sb ((fun _ => 0) j))))) ta (.inr (1, [.ref q8, .ref q17, .ref q26, .int (nI 0), .int (nI 0), .int (nI 0)]))) q17 (.inl (g.2.2.1 1, 200, .inl (fun j => nI ((fun _ => 0) j))))) q26 (.inl (g.2.2.1 1, 200, .inl (fun j => nI ((fun _ => 0) j))))) s H locs := kS_eq (km_u3 _ _ _ _ _ ne_ta_q17 ne_ta_q26) hM
  refine lv_aload_n hx hb dTP_init_36 rfl (lv_at hl 0 rfl) ?_
  refine lv_iconst (v := nI 0) hx hb dTP_init_37 (by decide) ?_
  refine k_put (own := RTP) (ref := RTP) (C := RTP) (T := TTP) (N := 6) (ci := 1) (v := .int (nI 0)) (ty := .int) (fs' := [.ref q8, .ref q17, .ref q26, .int (nI 0), .int (nI 0), .int (nI 0)]) hx hb hW inTP tyTP tyokTP nmokTP hown hM ((km_n ne_ta_q26).trans ((km_n ne_ta_q17).trans (km_s _ _ _))) rfl 4 (by decide) (hW _ w_39) (fun _ h => h) rfl (by decide +kernel) rfl rfl (Nat.le_of_ble_eq_true rfl) dTP_init_38 rfl (fun H locs hM => ?_)
  have hM : kS g (km_up (km_up (km_up (km_up μ q8 (.inl (g.2.2.1 0, 400, .inl (fun j => sb ((fun _ => 0) j))))) ta (.inr (1, [.ref q8, .ref q17, .ref q26, .int (nI 0), .int (nI 0), .int (nI 0)]))) q17 (.inl (g.2.2.1 1, 200, .inl (fun j => nI ((fun _ => 0) j))))) q26 (.inl (g.2.2.1 1, 200, .inl (fun j => nI ((fun _ => 0) j))))) s H locs := kS_eq (km_u3 _ _ _ _ _ ne_ta_q17 ne_ta_q26) hM
  refine lv_aload_n hx hb dTP_init_41 rfl (lv_at hl 0 rfl) ?_
  refine lv_iconst (v := nI 0) hx hb dTP_init_42 (by decide) ?_
  refine k_put (own := RTP) (ref := RTP) (C := RTP) (T := TTP) (N := 6) (ci := 1) (v := .int (nI 0)) (ty := .int) (fs' := [.ref q8, .ref q17, .ref q26, .int (nI 0), .int (nI 0), .int (nI 0)]) hx hb hW inTP tyTP tyokTP nmokTP hown hM ((km_n ne_ta_q26).trans ((km_n ne_ta_q17).trans (km_s _ _ _))) rfl 5 (by decide) (hW _ w_41) (fun _ h => h) rfl (by decide +kernel) rfl rfl (Nat.le_of_ble_eq_true rfl) dTP_init_43 rfl (fun H locs hM => ?_)
  have hM : kS g (km_up (km_up (km_up (km_up μ q8 (.inl (g.2.2.1 0, 400, .inl (fun j => sb ((fun _ => 0) j))))) ta (.inr (1, [.ref q8, .ref q17, .ref q26, .int (nI 0), .int (nI 0), .int (nI 0)]))) q17 (.inl (g.2.2.1 1, 200, .inl (fun j => nI ((fun _ => 0) j))))) q26 (.inl (g.2.2.1 1, 200, .inl (fun j => nI ((fun _ => 0) j))))) s H locs := kS_eq (km_u3 _ _ _ _ _ ne_ta_q17 ne_ta_q26) hM
  exact kr_v hx hb hr hlocks hM dTP_init_46 (⟨_, _, _, hnq8, (km_none (km_none hnq17).2).2, (km_none (km_none (km_none hnq26).2).2).2, (km_none (km_none hnq17).2).1, (km_none (km_none (km_none hnq26).2).2).1, (km_none hnq26).1, rfl⟩)
set_option maxHeartbeats 800000 in
set_option maxRecDepth 100000 in
theorem mRT_holdsFor (l : Launch) (g : kG) (μ : km_M) {te bo co k : Nat} (hte : μ te = some (.inr (0, [.ref bo, .ref co, .ref (g.2.2.2.1 k)]))) (hk8 : k < 8) {br bp : Nat} {Fb : Nat → Int64} (hbo : μ bo = some (.inr (2, [.ref br, .int (nI bp)]))) (hbr : μ br = some (.inl (g.2.2.1 2, 7, .inr (.inl Fb)))) {cr cp : Nat} {Fc : Nat → Int64} (hco : μ co = some (.inr (2, [.ref cr, .int (nI cp)]))) (hcr : μ cr = some (.inl (g.2.2.1 2, 7, .inr (.inl Fc)))) {va ra pb : Nat} {F : Nat → Int64} (hv : μ va = some (.inr (2, [.ref ra, .int (nI pb)]))) (hr0 : μ ra = some (.inl (g.2.2.1 2, 7, .inr (.inl F)))) : Met l yRT_holdsFor (Cond.code yRT_holdsFor cRT_holdsFor 3 (some .boolean) :: Wd) ({ frames := 1, cells := 0, slots := 0, locals := 22 } : Room) (kPre g μ [.ref te, .ref va]) (kQi g (fun (r : Int32) (μ1 : km_M) => r = bI (decide (¬ enO k (oF F Fb 0 7) = 0 ∧ ((k = 6 ∨ k = 7) → ¬ 0 ≤ oF F Fc 0 7))) ∧ μ1 = μ)) 0 0 (kF g) := by
  refine k_met (by decide) (Nat.le_of_ble_eq_true rfl) ?_
  intro p e s m below meth c hx hb hr hlocks hml hown hnm hW ls hl H locs hM
  have hl : lv_has ls 3 [(0, .ref te), (1, .ref va)] := hl
  refine lv_aload_n hx hb dRT_holdsFor_0 rfl (lv_at hl 0 rfl) ?_
  refine k_get (own := RRT) (ref := RRT) (C := RRT) (T := TRT) (N := 3) (ci := 0) (v := .ref (g.2.2.2.1 k)) hx hb hW inRT hown hM hte rfl 2 (by decide) (hW _ w_86) (fun _ h => h) rfl dRT_holdsFor_1 ?_
  refine lv_aload_n hx hb dRT_holdsFor_4 rfl (lv_at hl 1 rfl) ?_
  refine lv_aload_n hx hb dRT_holdsFor_5 rfl (lv_at hl 0 rfl) ?_
  refine k_get (own := RRT) (ref := RRT) (C := RRT) (T := TRT) (N := 3) (ci := 0) (v := .ref bo) hx hb hW inRT hown hM hte rfl 0 (by decide) (hW _ w_84) (fun _ h => h) rfl dRT_holdsFor_6 ?_
  refine kc_i (va_runVN (C := RVE) (As := [.ref bo]) (b := va) (rest := [.ref (g.2.2.2.1 k)]) (Ts := Wd) ⟨hx, hb, hml, hown, hW⟩ (mVE_orderTo l g μ hv hr0 hbo hbr) ⟨(va_cnB 1 hW (k_gC w_201) rfl rfl rfl (hM.2.1.2.1 _ n_271) (hW _ w_3) (by decide +kernel) ⟨Nat.le_of_ble_eq_true rfl, Nat.le_of_ble_eq_true rfl⟩), hW _ w_200, hW _ p_15⟩ (k_preV (q := (RVE, TVE, 2)) hM hv rfl) rfl rfl hl.1 rfl (lv_room (Nat.le_of_ble_eq_true rfl)) dRT_holdsFor_9 ⟨Nat.zero_le _, Nat.zero_le _⟩) hM (fun r μ1 H locs hp hM => ?_)
  obtain ⟨rfl, hmu⟩ := hp
  rw [hmu] at hM
  refine kc_i (va_runVN (C := RSG) (As := [.int (oF F Fb 0 7)]) (b := g.2.2.2.1 k) (rest := []) (Ts := Wd) ⟨hx, hb, hml, hown, hW⟩ (mSG_hasOrder l g μ (i := k) (by first | assumption | omega) (x := oF F Fb 0 7)) ⟨(va_cnB 1 hW (k_gC w_276) rfl rfl rfl (hM.2.1.2.1 _ n_272) (hW _ w_6) (by decide +kernel) ⟨Nat.le_of_ble_eq_true rfl, Nat.le_of_ble_eq_true rfl⟩), hW _ w_274, hW _ p_25⟩ (k_preE hM (by first | assumption | omega)) rfl rfl hl.1 rfl (lv_room (Nat.le_of_ble_eq_true rfl)) dRT_holdsFor_12 ⟨Nat.zero_le _, Nat.zero_le _⟩) hM (fun r μ1 H locs hp hM => ?_)
  obtain ⟨rfl, hmu⟩ := hp
  rw [hmu] at hM
  refine lv_if_ne (tgt := 20) hx hb dRT_holdsFor_15 (by decide) (fun h15 => ?_) (fun h15 => ?_)
  · skip
    refine lv_aload_n hx hb dRT_holdsFor_20 rfl (lv_at hl 0 rfl) ?_
    refine k_get (own := RRT) (ref := RRT) (C := RRT) (T := TRT) (N := 3) (ci := 0) (v := .ref (g.2.2.2.1 k)) hx hb hW inRT hown hM hte rfl 2 (by decide) (hW _ w_86) (fun _ h => h) rfl dRT_holdsFor_21 ?_
    refine va_gets (C := "VersionRanges$Sign") (n := "CARET") (d := "LVersionRanges$Sign;") (v := .ref (g.2.2.2.1 6)) hx hb (hM.2.1.2.2.1.1 6 (by decide)).1 hM.2.2.2 hown (hW _ w_246) (fun _ h => h) dRT_holdsFor_24 ?_
    refine lv_acmp_eq (rx := some (g.2.2.2.1 k)) (ry := some (g.2.2.2.1 6)) (tgt := 40) hx hb dRT_holdsFor_27 (by decide) (fun h27 => ?_) (fun h27 => ?_)
    · have h27 := k_enum hM hk8 (by decide) h27
      refine lv_iconst (v := nI 1) hx hb dRT_holdsFor_40 (by decide) ?_
      refine lv_goto (tgt := 45) hx hb dRT_holdsFor_41 (by decide) ?_
      refine lv_istore_n (lv' := [(2, .int (nI 1)), (0, .ref te), (1, .ref va)]) hx hb dRT_holdsFor_45 rfl hl (by decide) rfl (fun ls hl => ?_)
      refine lv_iload_n hx hb dRT_holdsFor_46 rfl (lv_at hl 0 rfl) ?_
      refine lv_if_eq (tgt := 61) hx hb dRT_holdsFor_47 (by decide) (fun h => absurd h (by decide)) (fun _ => ?_)
      refine lv_aload_n hx hb dRT_holdsFor_50 rfl (lv_at hl 2 rfl) ?_
      refine lv_aload_n hx hb dRT_holdsFor_51 rfl (lv_at hl 1 rfl) ?_
      refine k_get (own := RRT) (ref := RRT) (C := RRT) (T := TRT) (N := 3) (ci := 0) (v := .ref co) hx hb hW inRT hown hM hte rfl 1 (by decide) (hW _ w_85) (fun _ h => h) rfl dRT_holdsFor_52 ?_
      refine kc_i (va_runVN (C := RVE) (As := [.ref co]) (b := va) (rest := []) (Ts := Wd) ⟨hx, hb, hml, hown, hW⟩ (mVE_orderTo l g μ hv hr0 hco hcr) ⟨(va_cnB 1 hW (k_gC w_201) rfl rfl rfl (hM.2.1.2.1 _ n_271) (hW _ w_3) (by decide +kernel) ⟨Nat.le_of_ble_eq_true rfl, Nat.le_of_ble_eq_true rfl⟩), hW _ w_200, hW _ p_15⟩ (k_preV (q := (RVE, TVE, 2)) hM hv rfl) rfl rfl hl.1 rfl (lv_room (Nat.le_of_ble_eq_true rfl)) dRT_holdsFor_55 ⟨Nat.zero_le _, Nat.zero_le _⟩) hM (fun r μ1 H locs hp hM => ?_)
      obtain ⟨rfl, hmu⟩ := hp
      rw [hmu] at hM
      refine lv_if_ge (tgt := 65) hx hb dRT_holdsFor_58 (by decide) (fun h58 => ?_) (fun h58 => ?_)
      · skip
        refine lv_iconst (v := nI 0) hx hb dRT_holdsFor_65 (by decide) ?_
        exact kr_z hx hb hr (by decide) hlocks hM dRT_holdsFor_66 (⟨by first | exact bI_t ⟨h15, fun _ => h58⟩ | exact bI_t ⟨h15, fun z => absurd z (by omega)⟩ | exact bI_f (fun z => z.1 h15) | exact bI_f (fun z => z.2 (Or.inl h27) h58) | exact bI_f (fun z => z.2 (Or.inr h37) h58), rfl⟩)
      · skip
        refine lv_iconst (v := nI 1) hx hb dRT_holdsFor_61 (by decide) ?_
        refine lv_goto (tgt := 66) hx hb dRT_holdsFor_62 (by decide) ?_
        exact kr_z hx hb hr (by decide) hlocks hM dRT_holdsFor_66 (⟨by first | exact bI_t ⟨h15, fun _ => h58⟩ | exact bI_t ⟨h15, fun z => absurd z (by omega)⟩ | exact bI_f (fun z => z.1 h15) | exact bI_f (fun z => z.2 (Or.inl h27) h58) | exact bI_f (fun z => z.2 (Or.inr h37) h58), rfl⟩)
    · have h27 : ¬ k = 6 := fun z => h27 (by rw [z])
      refine lv_aload_n hx hb dRT_holdsFor_30 rfl (lv_at hl 0 rfl) ?_
      refine k_get (own := RRT) (ref := RRT) (C := RRT) (T := TRT) (N := 3) (ci := 0) (v := .ref (g.2.2.2.1 k)) hx hb hW inRT hown hM hte rfl 2 (by decide) (hW _ w_86) (fun _ h => h) rfl dRT_holdsFor_31 ?_
      refine va_gets (C := "VersionRanges$Sign") (n := "TILDE") (d := "LVersionRanges$Sign;") (v := .ref (g.2.2.2.1 7)) hx hb (hM.2.1.2.2.1.1 7 (by decide)).1 hM.2.2.2 hown (hW _ w_248) (fun _ h => h) dRT_holdsFor_34 ?_
      refine lv_acmp_ne (rx := some (g.2.2.2.1 k)) (ry := some (g.2.2.2.1 7)) (tgt := 44) hx hb dRT_holdsFor_37 (by decide) (fun h37 => ?_) (fun h37 => ?_)
      · have h37 : ¬ k = 7 := fun z => h37 (by rw [z])
        refine lv_iconst (v := nI 0) hx hb dRT_holdsFor_44 (by decide) ?_
        refine lv_istore_n (lv' := [(2, .int (nI 0)), (0, .ref te), (1, .ref va)]) hx hb dRT_holdsFor_45 rfl hl (by decide) rfl (fun ls hl => ?_)
        refine lv_iload_n hx hb dRT_holdsFor_46 rfl (lv_at hl 0 rfl) ?_
        refine lv_if_eq (tgt := 61) hx hb dRT_holdsFor_47 (by decide) (fun _ => ?_) (fun h => absurd (by decide) h)
        refine lv_iconst (v := nI 1) hx hb dRT_holdsFor_61 (by decide) ?_
        refine lv_goto (tgt := 66) hx hb dRT_holdsFor_62 (by decide) ?_
        exact kr_z hx hb hr (by decide) hlocks hM dRT_holdsFor_66 (⟨by first | exact bI_t ⟨h15, fun _ => h58⟩ | exact bI_t ⟨h15, fun z => absurd z (by omega)⟩ | exact bI_f (fun z => z.1 h15) | exact bI_f (fun z => z.2 (Or.inl h27) h58) | exact bI_f (fun z => z.2 (Or.inr h37) h58), rfl⟩)
      · have h37 := k_enum hM hk8 (by decide) h37
        refine lv_iconst (v := nI 1) hx hb dRT_holdsFor_40 (by decide) ?_
        refine lv_goto (tgt := 45) hx hb dRT_holdsFor_41 (by decide) ?_
        refine lv_istore_n (lv' := [(2, .int (nI 1)), (0, .ref te), (1, .ref va)]) hx hb dRT_holdsFor_45 rfl hl (by decide) rfl (fun ls hl => ?_)
        refine lv_iload_n hx hb dRT_holdsFor_46 rfl (lv_at hl 0 rfl) ?_
        refine lv_if_eq (tgt := 61) hx hb dRT_holdsFor_47 (by decide) (fun h => absurd h (by decide)) (fun _ => ?_)
        refine lv_aload_n hx hb dRT_holdsFor_50 rfl (lv_at hl 2 rfl) ?_
        refine lv_aload_n hx hb dRT_holdsFor_51 rfl (lv_at hl 1 rfl) ?_
        refine k_get (own := RRT) (ref := RRT) (C := RRT) (T := TRT) (N := 3) (ci := 0) (v := .ref co) hx hb hW inRT hown hM hte rfl 1 (by decide) (hW _ w_85) (fun _ h => h) rfl dRT_holdsFor_52 ?_
        refine kc_i (va_runVN (C := RVE) (As := [.ref co]) (b := va) (rest := []) (Ts := Wd) ⟨hx, hb, hml, hown, hW⟩ (mVE_orderTo l g μ hv hr0 hco hcr) ⟨(va_cnB 1 hW (k_gC w_201) rfl rfl rfl (hM.2.1.2.1 _ n_271) (hW _ w_3) (by decide +kernel) ⟨Nat.le_of_ble_eq_true rfl, Nat.le_of_ble_eq_true rfl⟩), hW _ w_200, hW _ p_15⟩ (k_preV (q := (RVE, TVE, 2)) hM hv rfl) rfl rfl hl.1 rfl (lv_room (Nat.le_of_ble_eq_true rfl)) dRT_holdsFor_55 ⟨Nat.zero_le _, Nat.zero_le _⟩) hM (fun r μ1 H locs hp hM => ?_)
        obtain ⟨rfl, hmu⟩ := hp
        rw [hmu] at hM
        refine lv_if_ge (tgt := 65) hx hb dRT_holdsFor_58 (by decide) (fun h58 => ?_) (fun h58 => ?_)
        · skip
          refine lv_iconst (v := nI 0) hx hb dRT_holdsFor_65 (by decide) ?_
          exact kr_z hx hb hr (by decide) hlocks hM dRT_holdsFor_66 (⟨by first | exact bI_t ⟨h15, fun _ => h58⟩ | exact bI_t ⟨h15, fun z => absurd z (by omega)⟩ | exact bI_f (fun z => z.1 h15) | exact bI_f (fun z => z.2 (Or.inl h27) h58) | exact bI_f (fun z => z.2 (Or.inr h37) h58), rfl⟩)
        · skip
          refine lv_iconst (v := nI 1) hx hb dRT_holdsFor_61 (by decide) ?_
          refine lv_goto (tgt := 66) hx hb dRT_holdsFor_62 (by decide) ?_
          exact kr_z hx hb hr (by decide) hlocks hM dRT_holdsFor_66 (⟨by first | exact bI_t ⟨h15, fun _ => h58⟩ | exact bI_t ⟨h15, fun z => absurd z (by omega)⟩ | exact bI_f (fun z => z.1 h15) | exact bI_f (fun z => z.2 (Or.inl h27) h58) | exact bI_f (fun z => z.2 (Or.inr h37) h58), rfl⟩)
  · skip
    refine lv_iconst (v := nI 0) hx hb dRT_holdsFor_18 (by decide) ?_
    exact kr_z hx hb hr (by decide) hlocks hM dRT_holdsFor_19 (⟨by first | exact bI_t ⟨h15, fun _ => h58⟩ | exact bI_t ⟨h15, fun z => absurd z (by omega)⟩ | exact bI_f (fun z => z.1 h15) | exact bI_f (fun z => z.2 (Or.inl h27) h58) | exact bI_f (fun z => z.2 (Or.inr h37) h58), rfl⟩)
set_option maxHeartbeats 800000 in
set_option maxRecDepth 100000 in
theorem mRT_readFrom (l : Launch) (g : kG) (μ : km_M) {te bo co k : Nat} (hte : μ te = some (.inr (0, [.ref bo, .ref co, .ref (g.2.2.2.1 k)]))) (hk8 : k < 8) {br bp : Nat} {Fb : Nat → Int64} (hbo : μ bo = some (.inr (2, [.ref br, .int (nI bp)]))) (hbr : μ br = some (.inl (g.2.2.1 2, 7, .inr (.inl Fb)))) {cr cp : Nat} {Fc : Nat → Int64} (hco : μ co = some (.inr (2, [.ref cr, .int (nI cp)]))) (hcr : μ cr = some (.inl (g.2.2.1 2, 7, .inr (.inl Fc)))) (nbc : bo ≠ co) (nrc : br ≠ cr) {ta ba sa oa ln ai zi : Nat} (ht : μ ta = some (.inr (1, [.ref ba, .ref sa, .ref oa, .int (nI ln), .int (nI ai), .int (nI zi)]))) {B : Nat → Nat} (hB : ∀ k, B k < 256) (hb0 : μ ba = some (.inl (g.2.2.1 0, 400, .inl (fun j => sb (B j))))) (hai : ai ≤ zi) (hzi : zi ≤ 400) : Met l yRT_readFrom (Cond.code yRT_readFrom cRT_readFrom 2 (some .boolean) :: Wd) ({ frames := 4, cells := 0, slots := 0, locals := 93 } : Room) (kPre g μ [.ref te, .ref ta]) (kQi g (fun (r : Int32) (μ1 : km_M) => ∃ (k1 a9 bp1 cp1 : Nat) (F1 F2 : Nat → Int64), μ1 = km_up (km_up (km_up (km_up (km_up (km_up μ ta (.inr (1, [.ref ba, .ref sa, .ref oa, .int (nI ln), .int (nI a9), .int (nI zi)]))) te (.inr (0, [.ref bo, .ref co, .ref (g.2.2.2.1 k1)]))) br (.inl (g.2.2.1 2, 7, .inr (.inl F1)))) bo (.inr (2, [.ref br, .int (nI bp1)]))) cr (.inl (g.2.2.1 2, 7, .inr (.inl F2)))) co (.inr (2, [.ref cr, .int (nI cp1)])) ∧ k1 < 8 ∧ k1 = (sgP B ai zi).1 ∧ ((k1 = 0 ∧ r = bI (decide ((sgP B ai zi).2 = zi))) ∨ (¬ k1 = 0 ∧ vVer B (sgP B ai zi).2 zi = none ∧ r = nI 0) ∨ (∃ v, ¬ k1 = 0 ∧ vVer B (sgP B ai zi).2 zi = some v ∧ r = nI 1 ∧ (∀ k, k < 7 → F1 k = rowOf v k) ∧ ∀ k, k < 7 → F2 k = n3F (fun _ => 0) (ceT k1 v.1 v.2.1 v.2.2.1) k)))) 0 0 (kF g) := by
  refine k_met (by decide) (Nat.le_of_ble_eq_true rfl) ?_
  intro p e s m below meth c hx hb hr hlocks hml hown hnm hW ls hl H locs hM
  have hl : lv_has ls 2 [(0, .ref te), (1, .ref ta)] := hl
  refine lv_aload_n hx hb dRT_readFrom_0 rfl (lv_at hl 0 rfl) ?_
  refine lv_aload_n hx hb dRT_readFrom_1 rfl (lv_at hl 1 rfl) ?_
  refine kc_r (va_runS (As := [.ref ta]) (rest := [.ref te]) (Ts := Wd) ⟨hx, hb, hml, hown, hW⟩ (mRT_readSign l g μ ht hB hb0 hai hzi) (va_cwS 1 hW (k_gS w_234 w_235 w_4 w_236) rfl rfl rfl (by decide +kernel) ⟨Nat.le_of_ble_eq_true rfl, Nat.le_of_ble_eq_true rfl⟩) (k_preS hM) rfl rfl hl.1 rfl (lv_room (Nat.le_of_ble_eq_true rfl)) dRT_readFrom_2 ⟨Nat.zero_le _, Nat.zero_le _⟩) hM (fun r μ1 H locs hp hM => ?_)
  obtain ⟨rfl, hmu⟩ := hp
  rw [hmu] at hM
  have hM : kS g (km_up μ ta (.inr (1, [.ref ba, .ref sa, .ref oa, .int (nI ln), .int (nI ((sgP B ai zi).2)), .int (nI zi)]))) s H locs := hM
  have hsb := sgP_b B hai
  generalize hsg : sgP B ai zi = sq at hM hsb ⊢
  obtain ⟨k1, a8⟩ := sq
  have hk1 : k1 < 8 := hsb.1
  have hle8 : a8 ≤ zi := hsb.2
  have hM : kS g (km_up μ ta (.inr (1, [.ref ba, .ref sa, .ref oa, .int (nI ln), .int (nI a8), .int (nI zi)]))) s H locs := hM
  refine k_put (own := RRT) (ref := RRT) (C := RRT) (T := TRT) (N := 3) (ci := 0) (v := .ref (g.2.2.2.1 k1)) (ty := .object "VersionRanges$Sign") (fs' := [.ref bo, .ref co, .ref (g.2.2.2.1 k1)]) hx hb hW inRT tyRT tyokRT nmokRT hown hM ((km_n (km_apC hte ht (by decide))).trans hte) rfl 2 (by decide) (hW _ w_86) (fun _ h => h) rfl (by decide +kernel) rfl rfl (Nat.le_of_ble_eq_true rfl) dRT_readFrom_5 rfl (fun H locs hM => ?_)
  have hM : kS g (km_up (km_up μ ta (.inr (1, [.ref ba, .ref sa, .ref oa, .int (nI ln), .int (nI a8), .int (nI zi)]))) te (.inr (0, [.ref bo, .ref co, .ref (g.2.2.2.1 k1)]))) s H locs := hM
  refine lv_aload_n hx hb dRT_readFrom_8 rfl (lv_at hl 0 rfl) ?_
  refine k_get (own := RRT) (ref := RRT) (C := RRT) (T := TRT) (N := 3) (ci := 0) (v := .ref (g.2.2.2.1 k1)) hx hb hW inRT hown hM (km_s _ _ _) rfl 2 (by decide) (hW _ w_86) (fun _ h => h) rfl dRT_readFrom_9 ?_
  refine va_gets (C := "VersionRanges$Sign") (n := "ALL") (d := "LVersionRanges$Sign;") (v := .ref (g.2.2.2.1 0)) hx hb (hM.2.1.2.2.1.1 0 (by decide)).1 hM.2.2.2 hown (hW _ w_82) (fun _ h => h) dRT_readFrom_12 ?_
  refine lv_acmp_ne (rx := some (g.2.2.2.1 k1)) (ry := some (g.2.2.2.1 0)) (tgt := 23) hx hb dRT_readFrom_15 (by decide) (fun h15 => ?_) (fun h15 => ?_)
  · have h15 : ¬ k1 = 0 := fun z => h15 (by rw [z])
    refine lv_aload_n hx hb dRT_readFrom_23 rfl (lv_at hl 0 rfl) ?_
    refine k_get (own := RRT) (ref := RRT) (C := RRT) (T := TRT) (N := 3) (ci := 0) (v := .ref bo) hx hb hW inRT hown hM (km_s _ _ _) rfl 0 (by decide) (hW _ w_84) (fun _ h => h) rfl dRT_readFrom_24 ?_
    refine lv_aload_n hx hb dRT_readFrom_27 rfl (lv_at hl 1 rfl) ?_
    refine kc_i (va_runVN (C := RVE) (As := [.ref ta]) (b := bo) (rest := []) (Ts := Wd) ⟨hx, hb, hml, hown, hW⟩ (mVE_readFrom l g (km_up (km_up μ ta (.inr (1, [.ref ba, .ref sa, .ref oa, .int (nI ln), .int (nI a8), .int (nI zi)]))) te (.inr (0, [.ref bo, .ref co, .ref (g.2.2.2.1 k1)]))) ((km_n (km_apC hbo hte (by decide))).trans ((km_n (km_apC hbo ht (by decide))).trans hbo)) ((km_n (km_apA hbr hte)).trans ((km_n (km_apA hbr ht)).trans hbr)) ((km_n (km_apC ht hte (by decide))).trans (km_s _ _ _)) hB ((km_n (km_apA hb0 hte)).trans ((km_n (km_apA hb0 ht)).trans hb0)) (by omega) (by omega)) ⟨(va_cnB 1 hW (k_gC w_145) rfl rfl rfl (hM.2.1.2.1 _ n_253) (hW _ w_3) (by decide +kernel) ⟨Nat.le_of_ble_eq_true rfl, Nat.le_of_ble_eq_true rfl⟩), hW _ w_144, hW _ p_5⟩ (k_preV (q := (RVE, TVE, 2)) hM ((km_n (km_apC hbo hte (by decide))).trans ((km_n (km_apC hbo ht (by decide))).trans hbo)) rfl) rfl rfl hl.1 rfl (lv_room (Nat.le_of_ble_eq_true rfl)) dRT_readFrom_28 ⟨Nat.zero_le _, Nat.zero_le _⟩) hM (fun r μ1 H locs hp hM => ?_)
    obtain ⟨F1, pb1, a1, hmu, hcase⟩ := hp
    subst hmu
    have hM : kS g (km_up (km_up (km_up (km_up (km_up μ ta (.inr (1, [.ref ba, .ref sa, .ref oa, .int (nI ln), .int (nI a8), .int (nI zi)]))) te (.inr (0, [.ref bo, .ref co, .ref (g.2.2.2.1 k1)]))) ta (.inr (1, [.ref ba, .ref sa, .ref oa, .int (nI ln), .int (nI a1), .int (nI zi)]))) br (.inl (g.2.2.1 2, 7, .inr (.inl F1)))) bo (.inr (2, [.ref br, .int (nI pb1)]))) s H locs := hM
    have hM : kS g (km_up (km_up (km_up (km_up μ ta (.inr (1, [.ref ba, .ref sa, .ref oa, .int (nI ln), .int (nI a1), .int (nI zi)]))) te (.inr (0, [.ref bo, .ref co, .ref (g.2.2.2.1 k1)]))) br (.inl (g.2.2.1 2, 7, .inr (.inl F1)))) bo (.inr (2, [.ref br, .int (nI pb1)]))) s H locs := kS_eq (congrArg (fun z => km_up z bo (.inr (2, [.ref br, .int (nI pb1)]))) (congrArg (fun z => km_up z br (.inl (g.2.2.1 2, 7, .inr (.inl F1)))) (km_u2 _ _ _ _ (km_apC ht hte (by decide))))) hM
    rcases hcase with ⟨hp1, rfl⟩ | ⟨v1, hp1, rfl, hpb1, hF1⟩
    · skip
      refine lv_if_ne (tgt := 36) hx hb dRT_readFrom_31 (by decide) (fun h => absurd (by decide) h) (fun _ => ?_)
      refine lv_iconst (v := nI 0) hx hb dRT_readFrom_34 (by decide) ?_
      exact kr_z hx hb hr (by decide) hlocks hM dRT_readFrom_35 (⟨k1, _, _, _, _, _, (by rw [km_id ((km_n (km_apA hcr hbo)).trans ((km_n (Ne.symm nrc)).trans ((km_n (km_apA hcr hte)).trans ((km_n (km_apA hcr ht)).trans hcr)))), km_id ((km_n (Ne.symm nbc)).trans ((km_n (km_apB hco hbr)).trans ((km_n (km_apC hco hte (by decide))).trans ((km_n (km_apC hco ht (by decide))).trans hco))))]), hk1, rfl, Or.inr (Or.inl ⟨h15, hp1, rfl⟩)⟩)
    · skip
      refine lv_if_ne (tgt := 36) hx hb dRT_readFrom_31 (by decide) (fun _ => ?_) (fun h => absurd h (by decide))
      refine lv_aload_n hx hb dRT_readFrom_36 rfl (lv_at hl 0 rfl) ?_
      have hlt1 := vVer_lt (by omega) hp1
      refine kc_v (va_runV (C := RRT) (As := []) (b := te) (rest := []) (Ts := Wd) ⟨hx, hb, hml, hown, hW⟩ (mRT_setCeiling l g (km_up (km_up (km_up (km_up μ ta (.inr (1, [.ref ba, .ref sa, .ref oa, .int (nI ln), .int (nI a1), .int (nI zi)]))) te (.inr (0, [.ref bo, .ref co, .ref (g.2.2.2.1 k1)]))) br (.inl (g.2.2.1 2, 7, .inr (.inl F1)))) bo (.inr (2, [.ref br, .int (nI pb1)]))) ((km_n (km_apC hte hbo (by decide))).trans ((km_n (km_apB hte hbr)).trans (km_s _ _ _))) hk1 (km_s _ _ _) ((km_n (km_apA hbr hbo)).trans (km_s _ _ _)) ((km_n (Ne.symm nbc)).trans ((km_n (km_apB hco hbr)).trans ((km_n (km_apC hco hte (by decide))).trans ((km_n (km_apC hco ht (by decide))).trans hco)))) ((km_n (km_apA hcr hbo)).trans ((km_n (Ne.symm nrc)).trans ((km_n (km_apA hcr hte)).trans ((km_n (km_apA hcr ht)).trans hcr)))) nbc nrc (x := v1.1) (y := v1.2.1) (w := v1.2.2.1) (hF1 0 (by decide)) (hF1 1 (by decide)) (hF1 2 (by decide)) hlt1.1 hlt1.2.1 hlt1.2.2) (cwV 0 hW (k_gV w_254 w_256 p_21 w_4 w_257) rfl rfl rfl (by decide +kernel) ⟨Nat.le_of_ble_eq_true rfl, Nat.le_of_ble_eq_true rfl⟩) (k_preV (q := (RRT, TRT, 3)) hM ((km_n (km_apC hte hbo (by decide))).trans ((km_n (km_apB hte hbr)).trans (km_s _ _ _))) rfl) rfl rfl hl.1 rfl (lv_room (Nat.le_of_ble_eq_true rfl)) dRT_readFrom_37 ⟨Nat.zero_le _, Nat.zero_le _⟩) hM (fun μ1 H locs hp hM => ?_)
      rw [hp] at hM
      have hM : kS g (km_up (km_up (km_up (km_up (km_up (km_up μ ta (.inr (1, [.ref ba, .ref sa, .ref oa, .int (nI ln), .int (nI a1), .int (nI zi)]))) te (.inr (0, [.ref bo, .ref co, .ref (g.2.2.2.1 k1)]))) br (.inl (g.2.2.1 2, 7, .inr (.inl F1)))) bo (.inr (2, [.ref br, .int (nI pb1)]))) cr (.inl (g.2.2.1 2, 7, .inr (.inl (n3F Fc (ceT k1 v1.1 v1.2.1 v1.2.2.1)))))) co (.inr (2, [.ref cr, .int (nI 0)]))) s H locs := hM
      refine lv_iconst (v := nI 1) hx hb dRT_readFrom_40 (by decide) ?_
      exact kr_z hx hb hr (by decide) hlocks hM dRT_readFrom_41 (⟨k1, _, _, _, _, _, rfl, hk1, rfl, Or.inr (Or.inr ⟨v1, h15, hp1, rfl, hF1, n3F_row⟩)⟩)
  · have h15 := k_enum hM hk1 (by decide) h15
    refine lv_aload_n hx hb dRT_readFrom_18 rfl (lv_at hl 1 rfl) ?_
    refine kc_i (va_runVN (C := RTP) (As := []) (b := ta) (rest := []) (Ts := Wd) ⟨hx, hb, hml, hown, hW⟩ (mTP_isAtStop l g (km_up (km_up μ ta (.inr (1, [.ref ba, .ref sa, .ref oa, .int (nI ln), .int (nI a8), .int (nI zi)]))) te (.inr (0, [.ref bo, .ref co, .ref (g.2.2.2.1 k1)]))) ((km_n (km_apC ht hte (by decide))).trans (km_s _ _ _)) (by omega) (by omega)) ⟨(va_cnB 0 hW (k_gC w_170) rfl rfl rfl (hM.2.1.2.1 _ n_252) (hW _ w_2) (by decide +kernel) ⟨Nat.le_of_ble_eq_true rfl, Nat.le_of_ble_eq_true rfl⟩), hW _ w_169, hW _ p_10⟩ (k_preV (q := (RTP, TTP, 6)) hM ((km_n (km_apC ht hte (by decide))).trans (km_s _ _ _)) rfl) rfl rfl hl.1 rfl (lv_room (Nat.le_of_ble_eq_true rfl)) dRT_readFrom_19 ⟨Nat.zero_le _, Nat.zero_le _⟩) hM (fun r μ1 H locs hp hM => ?_)
    obtain ⟨rfl, hmu⟩ := hp
    rw [hmu] at hM
    rcases Decidable.em (a8 = zi) with hz2 | hz2
    · refine topi_eq (y := nI 1) (bI_t hz2).symm ?_
      exact kr_z hx hb hr (by decide) hlocks hM dRT_readFrom_22 (⟨k1, _, _, _, _, _, (by rw [km_id ((km_n (km_apA hbr hte)).trans ((km_n (km_apA hbr ht)).trans hbr)), km_id ((km_n (km_apC hbo hte (by decide))).trans ((km_n (km_apC hbo ht (by decide))).trans hbo)), km_id ((km_n (km_apA hcr hte)).trans ((km_n (km_apA hcr ht)).trans hcr)), km_id ((km_n (km_apC hco hte (by decide))).trans ((km_n (km_apC hco ht (by decide))).trans hco))]), hk1, rfl, Or.inl ⟨h15, bI_t hz2⟩⟩)
    · refine topi_eq (y := nI 0) (bI_f hz2).symm ?_
      exact kr_z hx hb hr (by decide) hlocks hM dRT_readFrom_22 (⟨k1, _, _, _, _, _, (by rw [km_id ((km_n (km_apA hbr hte)).trans ((km_n (km_apA hbr ht)).trans hbr)), km_id ((km_n (km_apC hbo hte (by decide))).trans ((km_n (km_apC hbo ht (by decide))).trans hbo)), km_id ((km_n (km_apA hcr hte)).trans ((km_n (km_apA hcr ht)).trans hcr)), km_id ((km_n (km_apC hco hte (by decide))).trans ((km_n (km_apC hco ht (by decide))).trans hco))]), hk1, rfl, Or.inl ⟨h15, bI_f hz2⟩⟩)
end
section
theorem i0_lt {x : Int32} : x < 0 ↔ x.toInt < 0 := by rw [Int32.lt_iff_toInt_lt]; rfl
theorem iN_le {n : Nat} {x : Int32} (h : n < 2 ^ 31) : nI n ≤ x ↔ (n : Int) ≤ x.toInt := by rw [Int32.le_iff_toInt_le, nI_toInt h]
theorem iN_ge {n : Nat} {x : Int32} (h : n < 2 ^ 31) : x ≤ nI n ↔ x.toInt ≤ (n : Int) := by rw [Int32.le_iff_toInt_le, nI_toInt h]
theorem iN_lt {n : Nat} {x : Int32} (h : n < 2 ^ 31) : nI n < x ↔ (n : Int) < x.toInt := by rw [Int32.lt_iff_toInt_lt, nI_toInt h]
theorem iN_of {x : Int32} {n : Nat} (hn : n < 2 ^ 31) (h : 0 ≤ x.toInt ∧ x.toInt < (n : Int)) : ∃ j : Nat, j < n ∧ x = nI j := vp_in_of (vp_in_iff.mpr h) hn
def pb20 (B : Nat → Nat) (n : Nat) (a b c d f : Int32) : Nat → Nat := pb4 (pb4 (pb4 (pb4 (pb4 B n a) (n + 4) b) (n + 8) c) (n + 12) d) (n + 16) f
/-- how many of the first n answers are below zero -/
def rkN (f : Nat → Int32) : Nat → Nat
  | 0 => 0
  | n + 1 => rkN f n + (if f n < 0 then 1 else 0)
theorem rkN_le (f : Nat → Int32) : ∀ n, rkN f n ≤ n
  | 0 => Nat.le_refl _
  | n + 1 => by
    have h := rkN_le f n
    rw [rkN]
    split <;> omega
theorem rkN_t {f : Nat → Int32} {n : Nat} (h : ¬ 0 ≤ f n) : rkN f (n + 1) = rkN f n + 1 := by
  rw [rkN, if_pos]
  rw [Int32.le_iff_toInt_le] at h
  exact Int32.lt_iff_toInt_lt.mpr (by omega)
theorem rkN_f {f : Nat → Int32} {n : Nat} (h : 0 ≤ f n) : rkN f (n + 1) = rkN f n := by
  rw [rkN, if_neg]
  · rfl
  · intro z
    have h1 := Int32.le_iff_toInt_le.mp h
    have h2 := Int32.lt_iff_toInt_lt.mp z
    omega
set_option maxHeartbeats 800000 in
set_option maxRecDepth 100000 in
theorem mVR_isListed (l : Launch) (g : kG) (μ : km_M) {xa ta la cd te cnt : Nat} (hxa : μ xa = some (.inr (3, [.ref ta, .ref la, .ref cd, .ref te, .int (nI cnt)]))) (hcnt : cnt ≤ 12) {k : Int32} : Met l yVR_isListed (Cond.code yVR_isListed cVR_isListed 2 (some .boolean) :: Wd) ({ frames := 0, cells := 0, slots := 0, locals := 0 } : Room) (kPre g μ [.ref xa, .int k]) (kQi g (fun (r : Int32) (μ1 : km_M) => r = bI (decide (0 ≤ k.toInt ∧ k.toInt < (cnt : Int))) ∧ μ1 = μ)) 0 0 (kF g) := by
  refine k_met (by decide) (Nat.le_of_ble_eq_true rfl) ?_
  intro p e s m below meth c hx hb hr hlocks hml hown hnm hW ls hl H locs hM
  have hl : lv_has ls 2 [(0, .ref xa), (1, .int k)] := hl
  refine lv_iload_n hx hb dVR_isListed_0 rfl (lv_at hl 1 rfl) ?_
  refine lv_if_lt (tgt := 16) hx hb dVR_isListed_1 (by decide) (fun h1 => ?_) (fun h1 => ?_)
  · have h1 := i0_lt.mp h1
    refine lv_iconst (v := nI 0) hx hb dVR_isListed_16 (by decide) ?_
    exact kr_z hx hb hr (by decide) hlocks hM dVR_isListed_17 (⟨by first | rfl | exact bI_t (by omega) | exact bI_f (by omega), rfl⟩)
  · have h1 := (not_congr i0_lt).mp h1
    refine lv_iload_n hx hb dVR_isListed_4 rfl (lv_at hl 1 rfl) ?_
    refine lv_aload_n hx hb dVR_isListed_5 rfl (lv_at hl 0 rfl) ?_
    refine k_get (own := RVR) (ref := RVR) (C := RVR) (T := TVR) (N := 5) (ci := 3) (v := .int (nI cnt)) hx hb hW inVR hown hM hxa rfl 4 (by decide) (hW _ w_98) (fun _ h => h) rfl dVR_isListed_6 ?_
    refine lv_icmp_ge (tgt := 16) hx hb dVR_isListed_9 (by decide) (fun h9 => ?_) (fun h9 => ?_)
    · have h9 := (iN_le (by omega)).mp h9
      refine lv_iconst (v := nI 0) hx hb dVR_isListed_16 (by decide) ?_
      exact kr_z hx hb hr (by decide) hlocks hM dVR_isListed_17 (⟨by first | rfl | exact bI_t (by omega) | exact bI_f (by omega), rfl⟩)
    · have h9 := (not_congr (iN_le (n := cnt) (by omega))).mp h9
      refine lv_iconst (v := nI 1) hx hb dVR_isListed_12 (by decide) ?_
      refine lv_goto (tgt := 17) hx hb dVR_isListed_13 (by decide) ?_
      exact kr_z hx hb hr (by decide) hlocks hM dVR_isListed_17 (⟨by first | rfl | exact bI_t (by omega) | exact bI_f (by omega), rfl⟩)
set_option maxHeartbeats 800000 in
set_option maxRecDepth 100000 in
theorem mVR_feed (l : Launch) (g : kG) (μ : km_M) {xa ta la cd te cnt : Nat} (hxa : μ xa = some (.inr (3, [.ref ta, .ref la, .ref cd, .ref te, .int (nI cnt)]))) (hcnt : cnt ≤ 12) {ba sa oa ln ai zi : Nat} (ht : μ ta = some (.inr (1, [.ref ba, .ref sa, .ref oa, .int (nI ln), .int (nI ai), .int (nI zi)]))) {B : Nat → Nat} (hB : ∀ k, B k < 256) (hb0 : μ ba = some (.inl (g.2.2.1 0, 400, .inl (fun j => sb (B j))))) (hln : ln ≤ 400) {v1 v2 v3 v4 v5 : Int32} : Met l yVR_feed (Cond.code yVR_feed cVR_feed 6 (some .int) :: Wd) ({ frames := 1, cells := 0, slots := 0, locals := 22 } : Room) (kPre g μ [.ref xa, .int v1, .int v2, .int v3, .int v4, .int v5]) (kQi g (fun (r : Int32) (μ1 : km_M) => (ln + 20 ≤ 400 ∧ r = nI (ln + 20) ∧ μ1 = km_up (km_up μ ba (.inl (g.2.2.1 0, 400, .inl (fun j => sb ((pb20 B ln v1 v2 v3 v4 v5) j))))) ta (.inr (1, [.ref ba, .ref sa, .ref oa, .int (nI (ln + 20)), .int (nI ai), .int (nI zi)]))) ∨ (¬ ln + 20 ≤ 400 ∧ r = (-3) ∧ μ1 = μ))) 0 0 (kF g) := by
  refine k_met (by decide) (Nat.le_of_ble_eq_true rfl) ?_
  intro p e s m below meth c hx hb hr hlocks hml hown hnm hW ls hl H locs hM
  have hl : lv_has ls 6 [(0, .ref xa), (1, .int v1), (2, .int v2), (3, .int v3), (4, .int v4), (5, .int v5)] := hl
  refine lv_aload_n hx hb dVR_feed_0 rfl (lv_at hl 0 rfl) ?_
  refine k_get (own := RVR) (ref := RVR) (C := RVR) (T := TVR) (N := 5) (ci := 3) (v := .ref ta) hx hb hW inVR hown hM hxa rfl 0 (by decide) (hW _ w_94) (fun _ h => h) rfl dVR_feed_1 ?_
  refine lv_bipush (v := nI 20) hx hb dVR_feed_4 (by decide) ?_
  refine kc_i (va_runVN (C := RTP) (As := [.int (nI 20)]) (b := ta) (rest := []) (Ts := Wd) ⟨hx, hb, hml, hown, hW⟩ (mTP_hasRoomFor l g μ ht (k := 20) (by omega) (by omega)) ⟨(va_cnB 1 hW (k_gC w_117) rfl rfl rfl (hM.2.1.2.1 _ n_114) (hW _ w_2) (by decide +kernel) ⟨Nat.le_of_ble_eq_true rfl, Nat.le_of_ble_eq_true rfl⟩), hW _ w_116, hW _ p_0⟩ (k_preV (q := (RTP, TTP, 6)) hM ht rfl) rfl rfl hl.1 rfl (lv_room (Nat.le_of_ble_eq_true rfl)) dVR_feed_6 ⟨Nat.zero_le _, Nat.zero_le _⟩) hM (fun r μ1 H locs hp hM => ?_)
  obtain ⟨rfl, hmu⟩ := hp
  rw [hmu] at hM
  refine lv_if_ne (tgt := 15) hx hb dVR_feed_9 (by decide) (fun h9 => ?_) (fun h9 => ?_)
  · have h9 := bD_n.mp h9
    refine lv_aload_n hx hb dVR_feed_15 rfl (lv_at hl 0 rfl) ?_
    refine k_get (own := RVR) (ref := RVR) (C := RVR) (T := TVR) (N := 5) (ci := 3) (v := .ref ta) hx hb hW inVR hown hM hxa rfl 0 (by decide) (hW _ w_94) (fun _ h => h) rfl dVR_feed_16 ?_
    refine lv_iload_n hx hb dVR_feed_19 rfl (lv_at hl 1 rfl) ?_
    refine kc_v (va_runVN (C := RTP) (As := [.int v1]) (b := ta) (rest := []) (Ts := Wd) ⟨hx, hb, hml, hown, hW⟩ (mTP_addFour l g μ ht hB hb0 (v := v1) (by omega)) ⟨(va_cnB 1 hW (k_gC w_121) rfl rfl rfl (hM.2.1.2.1 _ n_118) (hW _ w_2) (by decide +kernel) ⟨Nat.le_of_ble_eq_true rfl, Nat.le_of_ble_eq_true rfl⟩), hW _ w_120, hW _ p_1⟩ (k_preV (q := (RTP, TTP, 6)) hM ht rfl) rfl rfl hl.1 rfl (lv_room (Nat.le_of_ble_eq_true rfl)) dVR_feed_20 ⟨Nat.zero_le _, Nat.zero_le _⟩) hM (fun μ1 H locs hp hM => ?_)
    rw [hp] at hM
    have hM : kS g (km_up (km_up μ ba (.inl (g.2.2.1 0, 400, .inl (fun j => sb ((pb4 B ln v1) j))))) ta (.inr (1, [.ref ba, .ref sa, .ref oa, .int (nI (ln + 4)), .int (nI ai), .int (nI zi)]))) s H locs := hM
    refine lv_aload_n hx hb dVR_feed_23 rfl (lv_at hl 0 rfl) ?_
    refine k_get (own := RVR) (ref := RVR) (C := RVR) (T := TVR) (N := 5) (ci := 3) (v := .ref ta) hx hb hW inVR hown hM ((km_n (km_apC hxa ht (by decide))).trans ((km_n (km_apB hxa hb0)).trans hxa)) rfl 0 (by decide) (hW _ w_94) (fun _ h => h) rfl dVR_feed_24 ?_
    refine lv_iload_n hx hb dVR_feed_27 rfl (lv_at hl 2 rfl) ?_
    refine kc_v (va_runVN (C := RTP) (As := [.int v2]) (b := ta) (rest := []) (Ts := Wd) ⟨hx, hb, hml, hown, hW⟩ (mTP_addFour l g (km_up (km_up μ ba (.inl (g.2.2.1 0, 400, .inl (fun j => sb ((pb4 B ln v1) j))))) ta (.inr (1, [.ref ba, .ref sa, .ref oa, .int (nI (ln + 4)), .int (nI ai), .int (nI zi)]))) (km_s _ _ _) (pb4_lt hB _ _) ((km_n (km_apA hb0 ht)).trans (km_s _ _ _)) (v := v2) (by omega)) ⟨(va_cnB 1 hW (k_gC w_121) rfl rfl rfl (hM.2.1.2.1 _ n_118) (hW _ w_2) (by decide +kernel) ⟨Nat.le_of_ble_eq_true rfl, Nat.le_of_ble_eq_true rfl⟩), hW _ w_120, hW _ p_1⟩ (k_preV (q := (RTP, TTP, 6)) hM (km_s _ _ _) rfl) rfl rfl hl.1 rfl (lv_room (Nat.le_of_ble_eq_true rfl)) dVR_feed_28 ⟨Nat.zero_le _, Nat.zero_le _⟩) hM (fun μ1 H locs hp hM => ?_)
    rw [hp] at hM
    have hM : kS g (km_up (km_up (km_up (km_up μ ba (.inl (g.2.2.1 0, 400, .inl (fun j => sb ((pb4 B ln v1) j))))) ta (.inr (1, [.ref ba, .ref sa, .ref oa, .int (nI (ln + 4)), .int (nI ai), .int (nI zi)]))) ba (.inl (g.2.2.1 0, 400, .inl (fun j => sb ((pb4 (pb4 B ln v1) (ln + 4) v2) j))))) ta (.inr (1, [.ref ba, .ref sa, .ref oa, .int (nI (ln + 8)), .int (nI ai), .int (nI zi)]))) s H locs := hM
    have hM : kS g (km_up (km_up (km_up μ ba (.inl (g.2.2.1 0, 400, .inl (fun j => sb ((pb4 (pb4 B ln v1) (ln + 4) v2) j))))) ta (.inr (1, [.ref ba, .ref sa, .ref oa, .int (nI (ln + 4)), .int (nI ai), .int (nI zi)]))) ta (.inr (1, [.ref ba, .ref sa, .ref oa, .int (nI (ln + 8)), .int (nI ai), .int (nI zi)]))) s H locs := kS_eq (congrArg (fun z => km_up z ta (.inr (1, [.ref ba, .ref sa, .ref oa, .int (nI (ln + 8)), .int (nI ai), .int (nI zi)]))) (km_u2 _ _ _ _ (km_apA hb0 ht))) hM
    have hM : kS g (km_up (km_up μ ba (.inl (g.2.2.1 0, 400, .inl (fun j => sb ((pb4 (pb4 B ln v1) (ln + 4) v2) j))))) ta (.inr (1, [.ref ba, .ref sa, .ref oa, .int (nI (ln + 8)), .int (nI ai), .int (nI zi)]))) s H locs := kS_eq (km_u1 _ _ _ _) hM
    refine lv_aload_n hx hb dVR_feed_31 rfl (lv_at hl 0 rfl) ?_
    refine k_get (own := RVR) (ref := RVR) (C := RVR) (T := TVR) (N := 5) (ci := 3) (v := .ref ta) hx hb hW inVR hown hM ((km_n (km_apC hxa ht (by decide))).trans ((km_n (km_apB hxa hb0)).trans hxa)) rfl 0 (by decide) (hW _ w_94) (fun _ h => h) rfl dVR_feed_32 ?_
    refine lv_iload_n hx hb dVR_feed_35 rfl (lv_at hl 3 rfl) ?_
    refine kc_v (va_runVN (C := RTP) (As := [.int v3]) (b := ta) (rest := []) (Ts := Wd) ⟨hx, hb, hml, hown, hW⟩ (mTP_addFour l g (km_up (km_up μ ba (.inl (g.2.2.1 0, 400, .inl (fun j => sb ((pb4 (pb4 B ln v1) (ln + 4) v2) j))))) ta (.inr (1, [.ref ba, .ref sa, .ref oa, .int (nI (ln + 8)), .int (nI ai), .int (nI zi)]))) (km_s _ _ _) (pb4_lt (pb4_lt hB _ _) _ _) ((km_n (km_apA hb0 ht)).trans (km_s _ _ _)) (v := v3) (by omega)) ⟨(va_cnB 1 hW (k_gC w_121) rfl rfl rfl (hM.2.1.2.1 _ n_118) (hW _ w_2) (by decide +kernel) ⟨Nat.le_of_ble_eq_true rfl, Nat.le_of_ble_eq_true rfl⟩), hW _ w_120, hW _ p_1⟩ (k_preV (q := (RTP, TTP, 6)) hM (km_s _ _ _) rfl) rfl rfl hl.1 rfl (lv_room (Nat.le_of_ble_eq_true rfl)) dVR_feed_36 ⟨Nat.zero_le _, Nat.zero_le _⟩) hM (fun μ1 H locs hp hM => ?_)
    rw [hp] at hM
    have hM : kS g (km_up (km_up (km_up (km_up μ ba (.inl (g.2.2.1 0, 400, .inl (fun j => sb ((pb4 (pb4 B ln v1) (ln + 4) v2) j))))) ta (.inr (1, [.ref ba, .ref sa, .ref oa, .int (nI (ln + 8)), .int (nI ai), .int (nI zi)]))) ba (.inl (g.2.2.1 0, 400, .inl (fun j => sb ((pb4 (pb4 (pb4 B ln v1) (ln + 4) v2) (ln + 8) v3) j))))) ta (.inr (1, [.ref ba, .ref sa, .ref oa, .int (nI (ln + 12)), .int (nI ai), .int (nI zi)]))) s H locs := hM
    have hM : kS g (km_up (km_up (km_up μ ba (.inl (g.2.2.1 0, 400, .inl (fun j => sb ((pb4 (pb4 (pb4 B ln v1) (ln + 4) v2) (ln + 8) v3) j))))) ta (.inr (1, [.ref ba, .ref sa, .ref oa, .int (nI (ln + 8)), .int (nI ai), .int (nI zi)]))) ta (.inr (1, [.ref ba, .ref sa, .ref oa, .int (nI (ln + 12)), .int (nI ai), .int (nI zi)]))) s H locs := kS_eq (congrArg (fun z => km_up z ta (.inr (1, [.ref ba, .ref sa, .ref oa, .int (nI (ln + 12)), .int (nI ai), .int (nI zi)]))) (km_u2 _ _ _ _ (km_apA hb0 ht))) hM
    have hM : kS g (km_up (km_up μ ba (.inl (g.2.2.1 0, 400, .inl (fun j => sb ((pb4 (pb4 (pb4 B ln v1) (ln + 4) v2) (ln + 8) v3) j))))) ta (.inr (1, [.ref ba, .ref sa, .ref oa, .int (nI (ln + 12)), .int (nI ai), .int (nI zi)]))) s H locs := kS_eq (km_u1 _ _ _ _) hM
    refine lv_aload_n hx hb dVR_feed_39 rfl (lv_at hl 0 rfl) ?_
    refine k_get (own := RVR) (ref := RVR) (C := RVR) (T := TVR) (N := 5) (ci := 3) (v := .ref ta) hx hb hW inVR hown hM ((km_n (km_apC hxa ht (by decide))).trans ((km_n (km_apB hxa hb0)).trans hxa)) rfl 0 (by decide) (hW _ w_94) (fun _ h => h) rfl dVR_feed_40 ?_
    refine lv_iload hx hb dVR_feed_43 (lv_at hl 4 rfl) ?_
    refine kc_v (va_runVN (C := RTP) (As := [.int v4]) (b := ta) (rest := []) (Ts := Wd) ⟨hx, hb, hml, hown, hW⟩ (mTP_addFour l g (km_up (km_up μ ba (.inl (g.2.2.1 0, 400, .inl (fun j => sb ((pb4 (pb4 (pb4 B ln v1) (ln + 4) v2) (ln + 8) v3) j))))) ta (.inr (1, [.ref ba, .ref sa, .ref oa, .int (nI (ln + 12)), .int (nI ai), .int (nI zi)]))) (km_s _ _ _) (pb4_lt (pb4_lt (pb4_lt hB _ _) _ _) _ _) ((km_n (km_apA hb0 ht)).trans (km_s _ _ _)) (v := v4) (by omega)) ⟨(va_cnB 1 hW (k_gC w_121) rfl rfl rfl (hM.2.1.2.1 _ n_118) (hW _ w_2) (by decide +kernel) ⟨Nat.le_of_ble_eq_true rfl, Nat.le_of_ble_eq_true rfl⟩), hW _ w_120, hW _ p_1⟩ (k_preV (q := (RTP, TTP, 6)) hM (km_s _ _ _) rfl) rfl rfl hl.1 rfl (lv_room (Nat.le_of_ble_eq_true rfl)) dVR_feed_45 ⟨Nat.zero_le _, Nat.zero_le _⟩) hM (fun μ1 H locs hp hM => ?_)
    rw [hp] at hM
    have hM : kS g (km_up (km_up (km_up (km_up μ ba (.inl (g.2.2.1 0, 400, .inl (fun j => sb ((pb4 (pb4 (pb4 B ln v1) (ln + 4) v2) (ln + 8) v3) j))))) ta (.inr (1, [.ref ba, .ref sa, .ref oa, .int (nI (ln + 12)), .int (nI ai), .int (nI zi)]))) ba (.inl (g.2.2.1 0, 400, .inl (fun j => sb ((pb4 (pb4 (pb4 (pb4 B ln v1) (ln + 4) v2) (ln + 8) v3) (ln + 12) v4) j))))) ta (.inr (1, [.ref ba, .ref sa, .ref oa, .int (nI (ln + 16)), .int (nI ai), .int (nI zi)]))) s H locs := hM
    have hM : kS g (km_up (km_up (km_up μ ba (.inl (g.2.2.1 0, 400, .inl (fun j => sb ((pb4 (pb4 (pb4 (pb4 B ln v1) (ln + 4) v2) (ln + 8) v3) (ln + 12) v4) j))))) ta (.inr (1, [.ref ba, .ref sa, .ref oa, .int (nI (ln + 12)), .int (nI ai), .int (nI zi)]))) ta (.inr (1, [.ref ba, .ref sa, .ref oa, .int (nI (ln + 16)), .int (nI ai), .int (nI zi)]))) s H locs := kS_eq (congrArg (fun z => km_up z ta (.inr (1, [.ref ba, .ref sa, .ref oa, .int (nI (ln + 16)), .int (nI ai), .int (nI zi)]))) (km_u2 _ _ _ _ (km_apA hb0 ht))) hM
    have hM : kS g (km_up (km_up μ ba (.inl (g.2.2.1 0, 400, .inl (fun j => sb ((pb4 (pb4 (pb4 (pb4 B ln v1) (ln + 4) v2) (ln + 8) v3) (ln + 12) v4) j))))) ta (.inr (1, [.ref ba, .ref sa, .ref oa, .int (nI (ln + 16)), .int (nI ai), .int (nI zi)]))) s H locs := kS_eq (km_u1 _ _ _ _) hM
    refine lv_aload_n hx hb dVR_feed_48 rfl (lv_at hl 0 rfl) ?_
    refine k_get (own := RVR) (ref := RVR) (C := RVR) (T := TVR) (N := 5) (ci := 3) (v := .ref ta) hx hb hW inVR hown hM ((km_n (km_apC hxa ht (by decide))).trans ((km_n (km_apB hxa hb0)).trans hxa)) rfl 0 (by decide) (hW _ w_94) (fun _ h => h) rfl dVR_feed_49 ?_
    refine lv_iload hx hb dVR_feed_52 (lv_at hl 5 rfl) ?_
    refine kc_v (va_runVN (C := RTP) (As := [.int v5]) (b := ta) (rest := []) (Ts := Wd) ⟨hx, hb, hml, hown, hW⟩ (mTP_addFour l g (km_up (km_up μ ba (.inl (g.2.2.1 0, 400, .inl (fun j => sb ((pb4 (pb4 (pb4 (pb4 B ln v1) (ln + 4) v2) (ln + 8) v3) (ln + 12) v4) j))))) ta (.inr (1, [.ref ba, .ref sa, .ref oa, .int (nI (ln + 16)), .int (nI ai), .int (nI zi)]))) (km_s _ _ _) (pb4_lt (pb4_lt (pb4_lt (pb4_lt hB _ _) _ _) _ _) _ _) ((km_n (km_apA hb0 ht)).trans (km_s _ _ _)) (v := v5) (by omega)) ⟨(va_cnB 1 hW (k_gC w_121) rfl rfl rfl (hM.2.1.2.1 _ n_118) (hW _ w_2) (by decide +kernel) ⟨Nat.le_of_ble_eq_true rfl, Nat.le_of_ble_eq_true rfl⟩), hW _ w_120, hW _ p_1⟩ (k_preV (q := (RTP, TTP, 6)) hM (km_s _ _ _) rfl) rfl rfl hl.1 rfl (lv_room (Nat.le_of_ble_eq_true rfl)) dVR_feed_54 ⟨Nat.zero_le _, Nat.zero_le _⟩) hM (fun μ1 H locs hp hM => ?_)
    rw [hp] at hM
    have hM : kS g (km_up (km_up (km_up (km_up μ ba (.inl (g.2.2.1 0, 400, .inl (fun j => sb ((pb4 (pb4 (pb4 (pb4 B ln v1) (ln + 4) v2) (ln + 8) v3) (ln + 12) v4) j))))) ta (.inr (1, [.ref ba, .ref sa, .ref oa, .int (nI (ln + 16)), .int (nI ai), .int (nI zi)]))) ba (.inl (g.2.2.1 0, 400, .inl (fun j => sb ((pb4 (pb4 (pb4 (pb4 (pb4 B ln v1) (ln + 4) v2) (ln + 8) v3) (ln + 12) v4) (ln + 16) v5) j))))) ta (.inr (1, [.ref ba, .ref sa, .ref oa, .int (nI (ln + 20)), .int (nI ai), .int (nI zi)]))) s H locs := hM
    have hM : kS g (km_up (km_up (km_up μ ba (.inl (g.2.2.1 0, 400, .inl (fun j => sb ((pb4 (pb4 (pb4 (pb4 (pb4 B ln v1) (ln + 4) v2) (ln + 8) v3) (ln + 12) v4) (ln + 16) v5) j))))) ta (.inr (1, [.ref ba, .ref sa, .ref oa, .int (nI (ln + 16)), .int (nI ai), .int (nI zi)]))) ta (.inr (1, [.ref ba, .ref sa, .ref oa, .int (nI (ln + 20)), .int (nI ai), .int (nI zi)]))) s H locs := kS_eq (congrArg (fun z => km_up z ta (.inr (1, [.ref ba, .ref sa, .ref oa, .int (nI (ln + 20)), .int (nI ai), .int (nI zi)]))) (km_u2 _ _ _ _ (km_apA hb0 ht))) hM
    have hM : kS g (km_up (km_up μ ba (.inl (g.2.2.1 0, 400, .inl (fun j => sb ((pb4 (pb4 (pb4 (pb4 (pb4 B ln v1) (ln + 4) v2) (ln + 8) v3) (ln + 12) v4) (ln + 16) v5) j))))) ta (.inr (1, [.ref ba, .ref sa, .ref oa, .int (nI (ln + 20)), .int (nI ai), .int (nI zi)]))) s H locs := kS_eq (km_u1 _ _ _ _) hM
    refine lv_aload_n hx hb dVR_feed_57 rfl (lv_at hl 0 rfl) ?_
    refine k_get (own := RVR) (ref := RVR) (C := RVR) (T := TVR) (N := 5) (ci := 3) (v := .ref ta) hx hb hW inVR hown hM ((km_n (km_apC hxa ht (by decide))).trans ((km_n (km_apB hxa hb0)).trans hxa)) rfl 0 (by decide) (hW _ w_94) (fun _ h => h) rfl dVR_feed_58 ?_
    refine k_getN (own := RVR) (ref := RTP) (C := RTP) (T := TTP) (N := 6) (ci := 1) (v := .int (nI (ln + 20))) hx hb hW inTP hown hM (km_s _ _ _) rfl 3 (by decide) (va_Nw.use rfl (hM.2.1.2.1 _ n_38)) (fun _ h => h) rfl dVR_feed_61 ?_
    exact kr_i hx hb hr hlocks hM dVR_feed_64 (Or.inl ⟨h9, rfl, rfl⟩)
  · have h9 := bD_0.mp h9
    refine lv_bipush (v := (-3)) hx hb dVR_feed_12 (by decide) ?_
    exact kr_i hx hb hr hlocks hM dVR_feed_14 (Or.inr ⟨h9, rfl, rfl⟩)
set_option maxHeartbeats 800000 in
set_option maxRecDepth 100000 in
theorem mVR_end (l : Launch) (g : kG) (μ : km_M) {xa ta la cd te cnt : Nat} (hxa : μ xa = some (.inr (3, [.ref ta, .ref la, .ref cd, .ref te, .int (nI cnt)]))) (hcnt : cnt ≤ 12) {ba sa oa ln ai zi : Nat} (ht : μ ta = some (.inr (1, [.ref ba, .ref sa, .ref oa, .int (nI ln), .int (nI ai), .int (nI zi)]))) (hln : ln ≤ 400) {n : Int32} : Met l yVR_end (Cond.code yVR_end cVR_end 2 (some .int) :: Wd) ({ frames := 0, cells := 0, slots := 0, locals := 0 } : Room) (kPre g μ [.ref xa, .int n]) (kQi g (fun (r : Int32) (μ1 : km_M) => ((0 ≤ n.toInt ∧ n.toInt ≤ (ln : Int)) ∧ r = n ∧ ∃ j, n = nI j ∧ j ≤ ln ∧ μ1 = km_up μ ta (.inr (1, [.ref ba, .ref sa, .ref oa, .int (nI j), .int (nI ai), .int (nI zi)]))) ∨ (¬ (0 ≤ n.toInt ∧ n.toInt ≤ (ln : Int)) ∧ r = (-1) ∧ μ1 = μ))) 0 0 (kF g) := by
  refine k_met (by decide) (Nat.le_of_ble_eq_true rfl) ?_
  intro p e s m below meth c hx hb hr hlocks hml hown hnm hW ls hl H locs hM
  have hl : lv_has ls 2 [(0, .ref xa), (1, .int n)] := hl
  refine lv_iload_n hx hb dVR_end_0 rfl (lv_at hl 1 rfl) ?_
  refine lv_if_lt (tgt := 15) hx hb dVR_end_1 (by decide) (fun h1 => ?_) (fun h1 => ?_)
  · have h1 := i0_lt.mp h1
    refine lv_iconst (v := (-1)) hx hb dVR_end_15 (by decide) ?_
    exact kr_i hx hb hr hlocks hM dVR_end_16 (Or.inr ⟨by first | omega | (rw [nI_toInt hj]; omega), rfl, rfl⟩)
  · obtain ⟨j, hj, rfl⟩ := nI_of h1
    refine lv_iload_n hx hb dVR_end_4 rfl (lv_at hl 1 rfl) ?_
    refine lv_aload_n hx hb dVR_end_5 rfl (lv_at hl 0 rfl) ?_
    refine k_get (own := RVR) (ref := RVR) (C := RVR) (T := TVR) (N := 5) (ci := 3) (v := .ref ta) hx hb hW inVR hown hM hxa rfl 0 (by decide) (hW _ w_94) (fun _ h => h) rfl dVR_end_6 ?_
    refine k_getN (own := RVR) (ref := RTP) (C := RTP) (T := TTP) (N := 6) (ci := 1) (v := .int (nI ln)) hx hb hW inTP hown hM ht rfl 3 (by decide) (va_Nw.use rfl (hM.2.1.2.1 _ n_38)) (fun _ h => h) rfl dVR_end_9 ?_
    refine lv_icmp_le (tgt := 17) hx hb dVR_end_12 (by decide) (fun h12 => ?_) (fun h12 => ?_)
    · have h12 := (nJ_le_t (a := j) (b := ln) (by omega) (by omega)).mp h12
      refine lv_aload_n hx hb dVR_end_17 rfl (lv_at hl 0 rfl) ?_
      refine k_get (own := RVR) (ref := RVR) (C := RVR) (T := TVR) (N := 5) (ci := 3) (v := .ref ta) hx hb hW inVR hown hM hxa rfl 0 (by decide) (hW _ w_94) (fun _ h => h) rfl dVR_end_18 ?_
      refine lv_iload_n hx hb dVR_end_21 rfl (lv_at hl 1 rfl) ?_
      refine k_putN (own := RVR) (ref := RTP) (C := RTP) (T := TTP) (N := 6) (ci := 1) (v := .int (nI j)) (ty := .int) (fs' := [.ref ba, .ref sa, .ref oa, .int (nI j), .int (nI ai), .int (nI zi)]) hx hb hW inTP tyTP tyokTP nmokTP hown hM ht rfl 3 (by decide) (va_Nw.use rfl (hM.2.1.2.1 _ n_38)) (fun _ h => h) rfl (by decide +kernel) rfl rfl (Nat.le_of_ble_eq_true rfl) dVR_end_22 rfl (fun H locs hM => ?_)
      have hM : kS g (km_up μ ta (.inr (1, [.ref ba, .ref sa, .ref oa, .int (nI j), .int (nI ai), .int (nI zi)]))) s H locs := hM
      refine lv_iload_n hx hb dVR_end_25 rfl (lv_at hl 1 rfl) ?_
      exact kr_i hx hb hr hlocks hM dVR_end_26 (Or.inl ⟨by rw [nI_toInt hj]; omega, rfl, j, rfl, by omega, rfl⟩)
    · have h12 := (nJ_le_f (a := j) (b := ln) (by omega) (by omega)).mp h12
      refine lv_iconst (v := (-1)) hx hb dVR_end_15 (by decide) ?_
      exact kr_i hx hb hr hlocks hM dVR_end_16 (Or.inr ⟨by first | omega | (rw [nI_toInt hj]; omega), rfl, rfl⟩)
set_option maxHeartbeats 800000 in
set_option maxRecDepth 100000 in
theorem mVR_clear (l : Launch) (g : kG) (μ : km_M) {xa ta la cd te cnt : Nat} (hxa : μ xa = some (.inr (3, [.ref ta, .ref la, .ref cd, .ref te, .int (nI cnt)]))) (hcnt : cnt ≤ 12) : Met l yVR_clear (Cond.code yVR_clear cVR_clear 2 (some .int) :: Wd) ({ frames := 0, cells := 0, slots := 0, locals := 0 } : Room) (kPre g μ [.ref xa]) (kQi g (fun (r : Int32) (μ1 : km_M) => r = nI cnt ∧ μ1 = km_up μ xa (.inr (3, [.ref ta, .ref la, .ref cd, .ref te, .int (nI 0)])))) 0 0 (kF g) := by
  refine k_met (by decide) (Nat.le_of_ble_eq_true rfl) ?_
  intro p e s m below meth c hx hb hr hlocks hml hown hnm hW ls hl H locs hM
  have hl : lv_has ls 2 [(0, .ref xa)] := hl
  refine lv_aload_n hx hb dVR_clear_0 rfl (lv_at hl 0 rfl) ?_
  refine k_get (own := RVR) (ref := RVR) (C := RVR) (T := TVR) (N := 5) (ci := 3) (v := .int (nI cnt)) hx hb hW inVR hown hM hxa rfl 4 (by decide) (hW _ w_98) (fun _ h => h) rfl dVR_clear_1 ?_
  refine lv_istore_n (lv' := [(1, .int (nI cnt)), (0, .ref xa)]) hx hb dVR_clear_4 rfl hl (by decide) rfl (fun ls hl => ?_)
  refine lv_aload_n hx hb dVR_clear_5 rfl (lv_at hl 1 rfl) ?_
  refine lv_iconst (v := nI 0) hx hb dVR_clear_6 (by decide) ?_
  refine k_put (own := RVR) (ref := RVR) (C := RVR) (T := TVR) (N := 5) (ci := 3) (v := .int (nI 0)) (ty := .int) (fs' := [.ref ta, .ref la, .ref cd, .ref te, .int (nI 0)]) hx hb hW inVR tyVR tyokVR nmokVR hown hM hxa rfl 4 (by decide) (hW _ w_98) (fun _ h => h) rfl (by decide +kernel) rfl rfl (Nat.le_of_ble_eq_true rfl) dVR_clear_7 rfl (fun H locs hM => ?_)
  have hM : kS g (km_up μ xa (.inr (3, [.ref ta, .ref la, .ref cd, .ref te, .int (nI 0)]))) s H locs := hM
  refine lv_iload_n hx hb dVR_clear_10 rfl (lv_at hl 0 rfl) ?_
  exact kr_i hx hb hr hlocks hM dVR_clear_11 (⟨rfl, rfl⟩)
set_option maxHeartbeats 800000 in
set_option maxRecDepth 100000 in
theorem mVR_compare (l : Launch) (g : kG) (μ : km_M) {xa ta la cd te cnt : Nat} (hxa : μ xa = some (.inr (3, [.ref ta, .ref la, .ref cd, .ref te, .int (nI cnt)]))) (hcnt : cnt ≤ 12) {V : Nat → Option Nat} {lv lr lp : Nat → Nat} {LF : Nat → Nat → Int64} (hla : μ la = some (.inl (g.2.2.1 4, 12, .inr (.inr (.inr (.inr V)))))) (hV : ∀ k, k < 12 → V k = some (lv k)) (hL : ∀ k, k < 12 → μ (lv k) = some (.inr (2, [.ref (lr k), .int (nI (lp k))])) ∧ μ (lr k) = some (.inl (g.2.2.1 2, 7, .inr (.inl (LF k))))) {k q : Int32} : Met l yVR_compare (Cond.code yVR_compare cVR_compare 3 (some .int) :: Wd) ({ frames := 1, cells := 0, slots := 0, locals := 22 } : Room) (kPre g μ [.ref xa, .int k, .int q]) (kQi g (fun (r : Int32) (μ1 : km_M) => μ1 = μ ∧ ((¬ ((0 ≤ k.toInt ∧ k.toInt < (cnt : Int)) ∧ (0 ≤ q.toInt ∧ q.toInt < (cnt : Int))) ∧ r = (-2)) ∨ (∃ i j, i < cnt ∧ j < cnt ∧ k = nI i ∧ q = nI j ∧ r = oF (LF i) (LF j) 0 7)))) 0 0 (kF g) := by
  refine k_met (by decide) (Nat.le_of_ble_eq_true rfl) ?_
  intro p e s m below meth c hx hb hr hlocks hml hown hnm hW ls hl H locs hM
  have hl : lv_has ls 3 [(0, .ref xa), (1, .int k), (2, .int q)] := hl
  refine lv_aload_n hx hb dVR_compare_0 rfl (lv_at hl 0 rfl) ?_
  refine lv_iload_n hx hb dVR_compare_1 rfl (lv_at hl 1 rfl) ?_
  refine kc_i (va_runV (C := RVR) (As := [.int k]) (b := xa) (rest := []) (Ts := Wd) ⟨hx, hb, hml, hown, hW⟩ (mVR_isListed l g μ hxa hcnt (k := k)) (cwV 1 hW (k_gV w_194 w_196 p_14 w_1 w_197) rfl rfl rfl (by decide +kernel) ⟨Nat.le_of_ble_eq_true rfl, Nat.le_of_ble_eq_true rfl⟩) (k_preV (q := (RVR, TVR, 5)) hM hxa rfl) rfl rfl hl.1 rfl (lv_room (Nat.le_of_ble_eq_true rfl)) dVR_compare_2 ⟨Nat.zero_le _, Nat.zero_le _⟩) hM (fun r μ1 H locs hp hM => ?_)
  obtain ⟨rfl, hmu⟩ := hp
  rw [hmu] at hM
  rcases Decidable.em (0 ≤ k.toInt ∧ k.toInt < (cnt : Int)) with hl_i | hl_i
  · refine topi_eq (y := nI 1) (bI_t hl_i).symm ?_
    obtain ⟨i, hl_i, rfl⟩ := iN_of (by omega) hl_i
    refine lv_if_eq (tgt := 16) hx hb dVR_compare_5 (by decide) (fun h => absurd h (by decide)) (fun _ => ?_)
    refine lv_aload_n hx hb dVR_compare_8 rfl (lv_at hl 0 rfl) ?_
    refine lv_iload_n hx hb dVR_compare_9 rfl (lv_at hl 2 rfl) ?_
    refine kc_i (va_runV (C := RVR) (As := [.int q]) (b := xa) (rest := []) (Ts := Wd) ⟨hx, hb, hml, hown, hW⟩ (mVR_isListed l g μ hxa hcnt (k := q)) (cwV 1 hW (k_gV w_194 w_196 p_14 w_1 w_197) rfl rfl rfl (by decide +kernel) ⟨Nat.le_of_ble_eq_true rfl, Nat.le_of_ble_eq_true rfl⟩) (k_preV (q := (RVR, TVR, 5)) hM hxa rfl) rfl rfl hl.1 rfl (lv_room (Nat.le_of_ble_eq_true rfl)) dVR_compare_10 ⟨Nat.zero_le _, Nat.zero_le _⟩) hM (fun r μ1 H locs hp hM => ?_)
    obtain ⟨rfl, hmu⟩ := hp
    rw [hmu] at hM
    rcases Decidable.em (0 ≤ q.toInt ∧ q.toInt < (cnt : Int)) with hl_j | hl_j
    · refine topi_eq (y := nI 1) (bI_t hl_j).symm ?_
      obtain ⟨j, hl_j, rfl⟩ := iN_of (by omega) hl_j
      refine lv_if_ne (tgt := 19) hx hb dVR_compare_13 (by decide) (fun _ => ?_) (fun h => absurd h (by decide))
      refine lv_aload_n hx hb dVR_compare_19 rfl (lv_at hl 0 rfl) ?_
      refine k_get (own := RVR) (ref := RVR) (C := RVR) (T := TVR) (N := 5) (ci := 3) (v := .ref la) hx hb hW inVR hown hM hxa rfl 1 (by decide) (hW _ w_95) (fun _ h => h) rfl dVR_compare_20 ?_
      refine lv_iload_n hx hb dVR_compare_23 rfl (lv_at hl 1 rfl) ?_
      refine k_aald (i := i) (r := some (lv i)) hx hb hM 4 hla rfl (by omega) (by omega) (hV _ (by omega)) dVR_compare_24 ?_
      refine lv_aload_n hx hb dVR_compare_25 rfl (lv_at hl 0 rfl) ?_
      refine k_get (own := RVR) (ref := RVR) (C := RVR) (T := TVR) (N := 5) (ci := 3) (v := .ref la) hx hb hW inVR hown hM hxa rfl 1 (by decide) (hW _ w_95) (fun _ h => h) rfl dVR_compare_26 ?_
      refine lv_iload_n hx hb dVR_compare_29 rfl (lv_at hl 2 rfl) ?_
      refine k_aald (i := j) (r := some (lv j)) hx hb hM 4 hla rfl (by omega) (by omega) (hV _ (by omega)) dVR_compare_30 ?_
      refine kc_i (va_runVN (C := RVE) (As := [.ref (lv j)]) (b := lv i) (rest := []) (Ts := Wd) ⟨hx, hb, hml, hown, hW⟩ (mVE_orderTo l g μ (hL i (by omega)).1 (hL i (by omega)).2 (hL j (by omega)).1 (hL j (by omega)).2) ⟨(va_cnB 1 hW (k_gC w_201) rfl rfl rfl (hM.2.1.2.1 _ n_198) (hW _ w_3) (by decide +kernel) ⟨Nat.le_of_ble_eq_true rfl, Nat.le_of_ble_eq_true rfl⟩), hW _ w_200, hW _ p_15⟩ (k_preV (q := (RVE, TVE, 2)) hM (hL i (by omega)).1 rfl) rfl rfl hl.1 rfl (lv_room (Nat.le_of_ble_eq_true rfl)) dVR_compare_31 ⟨Nat.zero_le _, Nat.zero_le _⟩) hM (fun r μ1 H locs hp hM => ?_)
      obtain ⟨rfl, hmu⟩ := hp
      rw [hmu] at hM
      exact kr_i hx hb hr hlocks hM dVR_compare_34 (⟨rfl, Or.inr ⟨i, j, by omega, by omega, rfl, rfl, rfl⟩⟩)
    · refine topi_eq (y := nI 0) (bI_f hl_j).symm ?_
      refine lv_if_ne (tgt := 19) hx hb dVR_compare_13 (by decide) (fun h => absurd (by decide) h) (fun _ => ?_)
      refine lv_bipush (v := (-2)) hx hb dVR_compare_16 (by decide) ?_
      exact kr_i hx hb hr hlocks hM dVR_compare_18 (⟨rfl, Or.inl ⟨fun z => by first | exact hl_i z.1 | exact hl_j z.2, rfl⟩⟩)
  · refine topi_eq (y := nI 0) (bI_f hl_i).symm ?_
    refine lv_if_eq (tgt := 16) hx hb dVR_compare_5 (by decide) (fun _ => ?_) (fun h => absurd (by decide) h)
    refine lv_bipush (v := (-2)) hx hb dVR_compare_16 (by decide) ?_
    exact kr_i hx hb hr hlocks hM dVR_compare_18 (⟨rfl, Or.inl ⟨fun z => by first | exact hl_i z.1 | exact hl_j z.2, rfl⟩⟩)
set_option maxHeartbeats 800000 in
set_option maxRecDepth 100000 in
theorem mVR_part (l : Launch) (g : kG) (μ : km_M) {xa ta la cd te cnt : Nat} (hxa : μ xa = some (.inr (3, [.ref ta, .ref la, .ref cd, .ref te, .int (nI cnt)]))) (hcnt : cnt ≤ 12) {V : Nat → Option Nat} {lv lr lp : Nat → Nat} {LF : Nat → Nat → Int64} (hla : μ la = some (.inl (g.2.2.1 4, 12, .inr (.inr (.inr (.inr V)))))) (hV : ∀ k, k < 12 → V k = some (lv k)) (hL : ∀ k, k < 12 → μ (lv k) = some (.inr (2, [.ref (lr k), .int (nI (lp k))])) ∧ μ (lr k) = some (.inl (g.2.2.1 2, 7, .inr (.inl (LF k))))) {k q : Int32} : Met l yVR_part (Cond.code yVR_part cVR_part 3 (some .int) :: Wd) ({ frames := 1, cells := 0, slots := 0, locals := 21 } : Room) (kPre g μ [.ref xa, .int k, .int q]) (kQi g (fun (r : Int32) (μ1 : km_M) => μ1 = μ ∧ ((¬ (0 ≤ q.toInt ∧ q.toInt ≤ 3) ∧ r = (-1)) ∨ ((0 ≤ q.toInt ∧ q.toInt ≤ 3) ∧ ¬ (0 ≤ k.toInt ∧ k.toInt < (cnt : Int)) ∧ r = (-2)) ∨ (∃ i j, i < cnt ∧ j ≤ 3 ∧ k = nI i ∧ q = nI j ∧ r = if j = 3 then nI (lp i) else (LF i j).toInt32)))) 0 0 (kF g) := by
  refine k_met (by decide) (Nat.le_of_ble_eq_true rfl) ?_
  intro p e s m below meth c hx hb hr hlocks hml hown hnm hW ls hl H locs hM
  have hl : lv_has ls 3 [(0, .ref xa), (1, .int k), (2, .int q)] := hl
  refine lv_iload_n hx hb dVR_part_0 rfl (lv_at hl 2 rfl) ?_
  refine lv_if_lt (tgt := 9) hx hb dVR_part_1 (by decide) (fun h1 => ?_) (fun h1 => ?_)
  · have h1 := i0_lt.mp h1
    refine lv_iconst (v := (-1)) hx hb dVR_part_9 (by decide) ?_
    exact kr_i hx hb hr hlocks hM dVR_part_10 (⟨rfl, Or.inl ⟨by first | omega | (rw [nI_toInt hj]; omega), rfl⟩⟩)
  · obtain ⟨j, hj, rfl⟩ := nI_of h1
    refine lv_iload_n hx hb dVR_part_4 rfl (lv_at hl 2 rfl) ?_
    refine lv_iconst (v := nI 3) hx hb dVR_part_5 (by decide) ?_
    refine lv_icmp_le (tgt := 11) hx hb dVR_part_6 (by decide) (fun h6 => ?_) (fun h6 => ?_)
    · have h6 := (nJ_le_t (a := j) (b := 3) (by omega) (by omega)).mp h6
      refine lv_aload_n hx hb dVR_part_11 rfl (lv_at hl 0 rfl) ?_
      refine lv_iload_n hx hb dVR_part_12 rfl (lv_at hl 1 rfl) ?_
      refine kc_i (va_runV (C := RVR) (As := [.int k]) (b := xa) (rest := []) (Ts := Wd) ⟨hx, hb, hml, hown, hW⟩ (mVR_isListed l g μ hxa hcnt (k := k)) (cwV 1 hW (k_gV w_194 w_196 p_14 w_1 w_197) rfl rfl rfl (by decide +kernel) ⟨Nat.le_of_ble_eq_true rfl, Nat.le_of_ble_eq_true rfl⟩) (k_preV (q := (RVR, TVR, 5)) hM hxa rfl) rfl rfl hl.1 rfl (lv_room (Nat.le_of_ble_eq_true rfl)) dVR_part_13 ⟨Nat.zero_le _, Nat.zero_le _⟩) hM (fun r μ1 H locs hp hM => ?_)
      obtain ⟨rfl, hmu⟩ := hp
      rw [hmu] at hM
      rcases Decidable.em (0 ≤ k.toInt ∧ k.toInt < (cnt : Int)) with hl_i | hl_i
      · refine topi_eq (y := nI 1) (bI_t hl_i).symm ?_
        obtain ⟨i, hl_i, rfl⟩ := iN_of (by omega) hl_i
        refine lv_if_ne (tgt := 22) hx hb dVR_part_16 (by decide) (fun _ => ?_) (fun h => absurd h (by decide))
        refine lv_iload_n hx hb dVR_part_22 rfl (lv_at hl 2 rfl) ?_
        refine lv_iconst (v := nI 3) hx hb dVR_part_23 (by decide) ?_
        refine lv_icmp_ne (tgt := 39) hx hb dVR_part_24 (by decide) (fun h24 => ?_) (fun h24 => ?_)
        · have h24 := (nJ_ne_t (a := j) (b := 3) (by omega) (by omega)).mp h24
          refine lv_aload_n hx hb dVR_part_39 rfl (lv_at hl 0 rfl) ?_
          refine k_get (own := RVR) (ref := RVR) (C := RVR) (T := TVR) (N := 5) (ci := 3) (v := .ref la) hx hb hW inVR hown hM hxa rfl 1 (by decide) (hW _ w_95) (fun _ h => h) rfl dVR_part_40 ?_
          refine lv_iload_n hx hb dVR_part_43 rfl (lv_at hl 1 rfl) ?_
          refine k_aald (i := i) (r := some (lv i)) hx hb hM 4 hla rfl (by omega) (by omega) (hV _ (by omega)) dVR_part_44 ?_
          refine lv_iload_n hx hb dVR_part_45 rfl (lv_at hl 2 rfl) ?_
          refine kc_i (va_runVN (C := RVE) (As := [.int (nI j)]) (b := lv i) (rest := []) (Ts := Wd) ⟨hx, hb, hml, hown, hW⟩ (mVE_number l g μ (hL i (by omega)).1 (hL i (by omega)).2 (k := j) (by omega)) ⟨(va_cnB 1 hW (k_gC w_209) rfl rfl rfl (hM.2.1.2.1 _ n_206) (hW _ w_3) (by decide +kernel) ⟨Nat.le_of_ble_eq_true rfl, Nat.le_of_ble_eq_true rfl⟩), hW _ w_208, hW _ p_16⟩ (k_preV (q := (RVE, TVE, 2)) hM (hL i (by omega)).1 rfl) rfl rfl hl.1 rfl (lv_room (Nat.le_of_ble_eq_true rfl)) dVR_part_46 ⟨Nat.zero_le _, Nat.zero_le _⟩) hM (fun r μ1 H locs hp hM => ?_)
          obtain ⟨rfl, hmu⟩ := hp
          rw [hmu] at hM
          exact kr_i hx hb hr hlocks hM dVR_part_49 (⟨rfl, Or.inr (Or.inr ⟨i, j, by omega, by omega, rfl, rfl, by rw [if_neg h24]⟩)⟩)
        · have h24 := (nJ_ne_f (a := j) (b := 3) (by omega) (by omega)).mp h24
          refine lv_aload_n hx hb dVR_part_27 rfl (lv_at hl 0 rfl) ?_
          refine k_get (own := RVR) (ref := RVR) (C := RVR) (T := TVR) (N := 5) (ci := 3) (v := .ref la) hx hb hW inVR hown hM hxa rfl 1 (by decide) (hW _ w_95) (fun _ h => h) rfl dVR_part_28 ?_
          refine lv_iload_n hx hb dVR_part_31 rfl (lv_at hl 1 rfl) ?_
          refine k_aald (i := i) (r := some (lv i)) hx hb hM 4 hla rfl (by omega) (by omega) (hV _ (by omega)) dVR_part_32 ?_
          refine k_getN (own := RVR) (ref := RVE) (C := RVE) (T := TVE) (N := 2) (ci := 2) (v := .int (nI (lp i))) hx hb hW inVE hown hM (hL i (by omega)).1 rfl 1 (by decide) (va_Nw.use rfl (hM.2.1.2.1 _ n_67)) (fun _ h => h) rfl dVR_part_33 ?_
          refine lv_goto (tgt := 49) hx hb dVR_part_36 (by decide) ?_
          exact kr_i hx hb hr hlocks hM dVR_part_49 (⟨rfl, Or.inr (Or.inr ⟨i, j, by omega, by omega, rfl, rfl, by rw [if_pos h24]⟩)⟩)
      · refine topi_eq (y := nI 0) (bI_f hl_i).symm ?_
        refine lv_if_ne (tgt := 22) hx hb dVR_part_16 (by decide) (fun h => absurd (by decide) h) (fun _ => ?_)
        refine lv_bipush (v := (-2)) hx hb dVR_part_19 (by decide) ?_
        exact kr_i hx hb hr hlocks hM dVR_part_21 (⟨rfl, Or.inr (Or.inl ⟨by rw [nI_toInt hj]; omega, hl_i, rfl⟩)⟩)
    · have h6 := (nJ_le_f (a := j) (b := 3) (by omega) (by omega)).mp h6
      refine lv_iconst (v := (-1)) hx hb dVR_part_9 (by decide) ?_
      exact kr_i hx hb hr hlocks hM dVR_part_10 (⟨rfl, Or.inl ⟨by first | omega | (rw [nI_toInt hj]; omega), rfl⟩⟩)
end
section
set_option maxHeartbeats 800000 in
set_option maxRecDepth 100000 in
theorem mVR_rank (l : Launch) (g : kG) (μ : km_M) {xa ta la cd te cnt : Nat} (hxa : μ xa = some (.inr (3, [.ref ta, .ref la, .ref cd, .ref te, .int (nI cnt)]))) (hcnt : cnt ≤ 12) {V : Nat → Option Nat} {lv lr lp : Nat → Nat} {LF : Nat → Nat → Int64} (hla : μ la = some (.inl (g.2.2.1 4, 12, .inr (.inr (.inr (.inr V)))))) (hV : ∀ k, k < 12 → V k = some (lv k)) (hL : ∀ k, k < 12 → μ (lv k) = some (.inr (2, [.ref (lr k), .int (nI (lp k))])) ∧ μ (lr k) = some (.inl (g.2.2.1 2, 7, .inr (.inl (LF k))))) {k : Int32} : Met l yVR_rank (Cond.code yVR_rank cVR_rank 4 (some .int) :: Wd) ({ frames := 1, cells := 0, slots := 0, locals := 22 } : Room) (kPre g μ [.ref xa, .int k]) (kQi g (fun (r : Int32) (μ1 : km_M) => μ1 = μ ∧ ((¬ (0 ≤ k.toInt ∧ k.toInt < (cnt : Int)) ∧ r = (-2)) ∨ (∃ i, i < cnt ∧ k = nI i ∧ r = nI (rkN (fun j => oF (LF j) (LF i) 0 7) cnt))))) 0 0 (kF g) := by
  refine k_met (by decide) (Nat.le_of_ble_eq_true rfl) ?_
  intro p e s m below meth c hx hb hr hlocks hml hown hnm hW ls hl H locs hM
  have hl : lv_has ls 4 [(0, .ref xa), (1, .int k)] := hl
  have cut15 : ∀ (n : Nat), ∀ (i : Nat) (j : Nat), cnt - j < n → k = nI i → i < cnt → j ≤ cnt → ∀ (ls : Array Slot) (H : Heap) (locs : List Loc), lv_has ls 4 [(0, .ref xa), (1, .int k), (2, .int (nI (rkN (fun j => oF (LF j) (LF i) 0 7) j))), (3, .int (nI j))] → kS g (μ) s H locs → W p l e ({ frames := 1, cells := 0, slots := 0, locals := 22 } : Room) s m [.ref xa, .int k].toArray below meth c H locs 0 0 (MQ below (kQi g (fun (r : Int32) (μ1 : km_M) => μ1 = μ ∧ ((¬ (0 ≤ k.toInt ∧ k.toInt < (cnt : Int)) ∧ r = (-2)) ∨ (∃ i, i < cnt ∧ k = nI i ∧ r = nI (rkN (fun j => oF (LF j) (LF i) 0 7) cnt))))) [.ref xa, .int k].toArray s 0 0 (kF g)) (F0 m 15 ls []) := by
    intro n
    induction n with
    | zero => intro i j hlt; exact absurd hlt (Nat.not_lt_zero _)
    | succ n ih =>
      intro i j hlt hk hi hj ls H locs hl hM
      refine lv_iload_n hx hb dVR_rank_15 rfl (lv_at hl 3 rfl) ?_
      refine lv_aload_n hx hb dVR_rank_16 rfl (lv_at hl 0 rfl) ?_
      refine k_get (own := RVR) (ref := RVR) (C := RVR) (T := TVR) (N := 5) (ci := 3) (v := .int (nI cnt)) hx hb hW inVR hown hM hxa rfl 4 (by decide) (hW _ w_98) (fun _ h => h) rfl dVR_rank_17 ?_
      refine lv_icmp_ge (tgt := 50) hx hb dVR_rank_20 (by decide) (fun h20 => ?_) (fun h20 => ?_)
      · have h20 := (nJ_ge_t (a := j) (b := cnt) (by omega) (by omega)).mp h20
        refine lv_iload_n hx hb dVR_rank_50 rfl (lv_at hl 2 rfl) ?_
        exact kr_i hx hb hr hlocks hM dVR_rank_51 (⟨rfl, Or.inr ⟨i, by omega, hk, by rw [show cnt = j by omega]⟩⟩)
      · have h20 := (nJ_ge_f (a := j) (b := cnt) (by omega) (by omega)).mp h20
        refine lv_aload_n hx hb dVR_rank_23 rfl (lv_at hl 0 rfl) ?_
        refine k_get (own := RVR) (ref := RVR) (C := RVR) (T := TVR) (N := 5) (ci := 3) (v := .ref la) hx hb hW inVR hown hM hxa rfl 1 (by decide) (hW _ w_95) (fun _ h => h) rfl dVR_rank_24 ?_
        refine lv_iload_n hx hb dVR_rank_27 rfl (lv_at hl 3 rfl) ?_
        refine k_aald (i := j) (r := some (lv j)) hx hb hM 4 hla rfl (by omega) (by omega) (hV _ (by omega)) dVR_rank_28 ?_
        refine lv_aload_n hx hb dVR_rank_29 rfl (lv_at hl 0 rfl) ?_
        refine k_get (own := RVR) (ref := RVR) (C := RVR) (T := TVR) (N := 5) (ci := 3) (v := .ref la) hx hb hW inVR hown hM hxa rfl 1 (by decide) (hW _ w_95) (fun _ h => h) rfl dVR_rank_30 ?_
        refine lv_iload_n hx hb dVR_rank_33 rfl (lv_at hl 1 rfl) ?_
        refine topi_eq (y := nI i) hk ?_
        refine k_aald (i := i) (r := some (lv i)) hx hb hM 4 hla rfl (by omega) (by omega) (hV _ (by omega)) dVR_rank_34 ?_
        refine kc_i (va_runVN (C := RVE) (As := [.ref (lv i)]) (b := lv j) (rest := []) (Ts := Wd) ⟨hx, hb, hml, hown, hW⟩ (mVE_orderTo l g μ (hL j (by omega)).1 (hL j (by omega)).2 (hL i (by omega)).1 (hL i (by omega)).2) ⟨(va_cnB 1 hW (k_gC w_201) rfl rfl rfl (hM.2.1.2.1 _ n_198) (hW _ w_3) (by decide +kernel) ⟨Nat.le_of_ble_eq_true rfl, Nat.le_of_ble_eq_true rfl⟩), hW _ w_200, hW _ p_15⟩ (k_preV (q := (RVE, TVE, 2)) hM (hL j (by omega)).1 rfl) rfl rfl hl.1 rfl (lv_room (Nat.le_of_ble_eq_true rfl)) dVR_rank_35 ⟨Nat.zero_le _, Nat.zero_le _⟩) hM (fun r μ1 H locs hp hM => ?_)
        obtain ⟨rfl, hmu⟩ := hp
        rw [hmu] at hM
        refine lv_if_ge (tgt := 44) hx hb dVR_rank_38 (by decide) (fun h38 => ?_) (fun h38 => ?_)
        · skip
          refine lv_iinc (v := nI (j + 1)) (lv' := [(3, .int (nI (j + 1))), (0, .ref xa), (1, .int k), (2, .int (nI (rkN (fun j => oF (LF j) (LF i) 0 7) j)))]) (k := 3) hx hb dVR_rank_44 hl rfl (ii1 j) (by decide) rfl (fun ls hl => ?_)
          refine lv_goto (tgt := 15) hx hb dVR_rank_47 (by decide) ?_
          try rw [← rkN_f (f := fun j => oF (LF j) (LF i) 0 7) h38] at hl
          exact ih i (j + 1) (by omega) (by first | assumption | omega | exact rfl) (by first | assumption | omega | exact rfl) (by first | assumption | omega | exact rfl) ls H locs (lv_sub hl [1, 2, 3, 0] rfl) hM
        · skip
          refine lv_iinc (v := nI (rkN (fun j => oF (LF j) (LF i) 0 7) (j + 1))) (lv' := [(2, .int (nI (rkN (fun j => oF (LF j) (LF i) 0 7) (j + 1)))), (0, .ref xa), (1, .int k), (3, .int (nI j))]) (k := 2) hx hb dVR_rank_41 hl rfl ((ii1 _).trans (congrArg nI (rkN_t (f := fun j => oF (LF j) (LF i) 0 7) h38).symm)) (by decide) rfl (fun ls hl => ?_)
          refine lv_iinc (v := nI (j + 1)) (lv' := [(3, .int (nI (j + 1))), (2, .int (nI (rkN (fun j => oF (LF j) (LF i) 0 7) (j + 1)))), (0, .ref xa), (1, .int k)]) (k := 3) hx hb dVR_rank_44 hl rfl (ii1 j) (by decide) rfl (fun ls hl => ?_)
          refine lv_goto (tgt := 15) hx hb dVR_rank_47 (by decide) ?_
          try rw [← rkN_f (f := fun j => oF (LF j) (LF i) 0 7) h38] at hl
          exact ih i (j + 1) (by omega) (by first | assumption | omega | exact rfl) (by first | assumption | omega | exact rfl) (by first | assumption | omega | exact rfl) ls H locs (lv_sub hl [2, 3, 1, 0] rfl) hM
  refine lv_aload_n hx hb dVR_rank_0 rfl (lv_at hl 0 rfl) ?_
  refine lv_iload_n hx hb dVR_rank_1 rfl (lv_at hl 1 rfl) ?_
  refine kc_i (va_runV (C := RVR) (As := [.int k]) (b := xa) (rest := []) (Ts := Wd) ⟨hx, hb, hml, hown, hW⟩ (mVR_isListed l g μ hxa hcnt (k := k)) (cwV 1 hW (k_gV w_194 w_196 p_14 w_1 w_197) rfl rfl rfl (by decide +kernel) ⟨Nat.le_of_ble_eq_true rfl, Nat.le_of_ble_eq_true rfl⟩) (k_preV (q := (RVR, TVR, 5)) hM hxa rfl) rfl rfl hl.1 rfl (lv_room (Nat.le_of_ble_eq_true rfl)) dVR_rank_2 ⟨Nat.zero_le _, Nat.zero_le _⟩) hM (fun r μ1 H locs hp hM => ?_)
  obtain ⟨rfl, hmu⟩ := hp
  rw [hmu] at hM
  rcases Decidable.em (0 ≤ k.toInt ∧ k.toInt < (cnt : Int)) with hl_i | hl_i
  · refine topi_eq (y := nI 1) (bI_t hl_i).symm ?_
    obtain ⟨i, hl_i, rfl⟩ := iN_of (by omega) hl_i
    refine lv_if_ne (tgt := 11) hx hb dVR_rank_5 (by decide) (fun _ => ?_) (fun h => absurd h (by decide))
    refine lv_iconst (v := nI 0) hx hb dVR_rank_11 (by decide) ?_
    refine lv_istore_n (lv' := [(2, .int (nI 0)), (0, .ref xa), (1, .int (nI i))]) hx hb dVR_rank_12 rfl hl (by decide) rfl (fun ls hl => ?_)
    refine lv_iconst (v := nI 0) hx hb dVR_rank_13 (by decide) ?_
    refine lv_istore_n (lv' := [(3, .int (nI 0)), (2, .int (nI 0)), (0, .ref xa), (1, .int (nI i))]) hx hb dVR_rank_14 rfl hl (by decide) rfl (fun ls hl => ?_)
    exact cut15 _ i 0 (Nat.lt_succ_self _) (by first | assumption | omega | exact rfl) (by first | assumption | omega | exact rfl) (by first | assumption | omega | exact rfl) ls H locs (lv_sub hl [2, 3, 1, 0] rfl) hM
  · refine topi_eq (y := nI 0) (bI_f hl_i).symm ?_
    refine lv_if_ne (tgt := 11) hx hb dVR_rank_5 (by decide) (fun h => absurd (by decide) h) (fun _ => ?_)
    refine lv_bipush (v := (-2)) hx hb dVR_rank_8 (by decide) ?_
    exact kr_i hx hb hr hlocks hM dVR_rank_10 (⟨rfl, Or.inl ⟨hl_i, rfl⟩⟩)
end
section
-- the words of a tape don't depend on what the two arrays held before
theorem spl_ind (B S E S' E' : Nat → Nat) : ∀ i, (spl B S E i).1 = (spl B S' E' i).1 ∧ ∀ k, k < (spl B S E i).1 → (spl B S E i).2.1 k = (spl B S' E' i).2.1 k ∧ (spl B S E i).2.2 k = (spl B S' E' i).2.2 k := by
  intro i
  induction i with
  | zero => exact ⟨rfl, fun k h => absurd h (Nat.not_lt_zero _)⟩
  | succ i ih =>
    obtain ⟨h1, h2⟩ := ih
    rw [spl, spl]
    by_cases hb : B i = 32
    · rw [if_pos hb, if_pos hb]
      exact ⟨h1, h2⟩
    · rw [if_neg hb, if_neg hb]
      by_cases hs : i = 0 ∨ B (i - 1) = 32
      · rw [if_pos hs, if_pos hs]
        refine ⟨by simp only; omega, fun k hk => ?_⟩
        simp only at hk ⊢
        rw [← h1]
        by_cases hkw : k = (spl B S E i).1
        · rw [hkw, va_up_self, va_up_self, va_up_self, va_up_self]
          exact ⟨rfl, rfl⟩
        · rw [va_up_ne _ _ hkw, va_up_ne _ _ hkw, va_up_ne _ _ hkw, va_up_ne _ _ hkw]
          exact h2 k (by omega)
      · rw [if_neg hs, if_neg hs]
        refine ⟨h1, fun k hk => ?_⟩
        simp only at hk ⊢
        rw [← h1]
        refine ⟨(h2 k hk).1, ?_⟩
        by_cases hkw : k = (spl B S E i).1 - 1
        · rw [hkw, va_up_self, va_up_self]
        · rw [va_up_ne _ _ hkw, va_up_ne _ _ hkw]
          exact (h2 k hk).2
theorem spl_ok (B S E : Nat → Nat) : ∀ i k, k < (spl B S E i).1 → (spl B S E i).2.1 k < (spl B S E i).2.2 k ∧ (spl B S E i).2.2 k ≤ i := by
  intro i
  induction i with
  | zero => intro k h; exact absurd h (Nat.not_lt_zero _)
  | succ i ih =>
    intro k hk
    have hb3 := spl_b B S E i
    rw [spl] at hk ⊢
    by_cases hb : B i = 32
    · rw [if_pos hb] at hk ⊢
      have h := ih k hk
      exact ⟨h.1, by omega⟩
    · rw [if_neg hb] at hk ⊢
      by_cases hs : i = 0 ∨ B (i - 1) = 32
      · rw [if_pos hs] at hk ⊢
        simp only at hk ⊢
        by_cases hkw : k = (spl B S E i).1
        · rw [hkw, va_up_self, va_up_self]
          omega
        · rw [va_up_ne _ _ hkw, va_up_ne _ _ hkw]
          have h := ih k (by omega)
          exact ⟨h.1, by omega⟩
      · rw [if_neg hs] at hk ⊢
        simp only at hk ⊢
        by_cases hkw : k = (spl B S E i).1 - 1
        · have h := ih k hk
          rw [hkw, va_up_self]
          rw [hkw] at h
          omega
        · rw [va_up_ne _ _ hkw]
          have h := ih k hk
          exact ⟨h.1, by omega⟩
abbrev spw (B : Nat → Nat) (n : Nat) : Nat × (Nat → Nat) × (Nat → Nat) := spl B (fun _ => 0) (fun _ => 0) n
/-- the version that a tape is, if it is one -/
def tkV (B : Nat → Nat) (n : Nat) : Option kVer := if (spw B n).1 = 1 then vVer B ((spw B n).2.1 0) ((spw B n).2.2 0) else none
theorem tk_n {B : Nat → Nat} {n : Nat} (h : ¬ (spw B n).1 = 1) : tkV B n = none := if_neg h
theorem tk_s {B : Nat → Nat} {n a z : Nat} (h : (spw B n).1 = 1) (ha : a = (spw B n).2.1 0) (hz : z = (spw B n).2.2 0) : tkV B n = vVer B a z := by
  unfold tkV
  rw [if_pos h, ha, hz]
/-- a bit for each place that has the property -/
def bN (f : Nat → Bool) : Nat → Int32
  | 0 => nI 0
  | n + 1 => if f n then bN f n ||| (nI 1 <<< (nI n &&& 31)) else bN f n
theorem bN_t {f : Nat → Bool} {n : Nat} (h : f n = true) : bN f (n + 1) = bN f n ||| (nI 1 <<< (nI n &&& 31)) := by rw [bN, if_pos h]
theorem bN_f {f : Nat → Bool} {n : Nat} (h : ¬ f n = true) : bN f (n + 1) = bN f n := by rw [bN, if_neg h]
theorem bN_all : ∀ n, n ≤ 12 → (nI 1 <<< (nI n &&& 31)) - nI 1 = bN (fun _ => true) n := by decide +kernel
/-- whether a test holds for a row -/
def hldR (k : Nat) (Fb Fc F : Nat → Int64) : Bool := decide (¬ enO k (oF F Fb 0 7) = 0 ∧ ((k = 6 ∨ k = 7) → ¬ 0 ≤ oF F Fc 0 7))
theorem oF_congr {F F' G G' : Nat → Int64} (h : ∀ k, k < 7 → F k = F' k) (h' : ∀ k, k < 7 → G k = G' k) : ∀ n i, i + n ≤ 7 → oF F G i n = oF F' G' i n := by
  intro n
  induction n with
  | zero => intro i _; rfl
  | succ n ih =>
    intro i hi
    rw [oF, oF, h i (by omega), h' i (by omega), ih (i + 1) (by omega)]
theorem hldR_congr {k : Nat} {Fb Fb' Fc Fc' F : Nat → Int64} (h : ∀ k, k < 7 → Fb k = Fb' k) (h' : ∀ k, k < 7 → Fc k = Fc' k) : hldR k Fb Fc F = hldR k Fb' Fc' F := by
  unfold hldR
  rw [oF_congr (fun _ _ => rfl) h 7 0 (by omega), oF_congr (fun _ _ => rfl) h' 7 0 (by omega)]
theorem hldR_0 (Fb Fc F : Nat → Int64) : hldR 0 Fb Fc F = true := by
  unfold hldR
  apply decide_eq_true
  refine ⟨?_, fun h => by omega⟩
  unfold enO
  repeat' split
  all_goals decide
/-- a word as a test: its sign and its version ('*' has the sign 0) -/
def tstP (B : Nat → Nat) (a z : Nat) : Option (Nat × kVer) := if (sgP B a z).1 = 0 then (if (sgP B a z).2 = z then some (0, (0, 0, 0, [])) else none) else (vVer B (sgP B a z).2 z).map fun v => ((sgP B a z).1, v)
def hldV (q : Nat × kVer) (F : Nat → Int64) : Bool := hldR q.1 (rowOf q.2) (n3F (fun _ => 0) (ceT q.1 q.2.1 q.2.2.1 q.2.2.2.1)) F
/-- a word of a range: none: no test; some none: the word ||; else a bit for each version that the test has -/
def tokC (B : Nat → Nat) (LF : Nat → Nat → Int64) (cnt a z : Nat) : Option (Option Int32) := if z - a = 2 ∧ B a = 124 ∧ B (a + 1) = 124 then some none else (tstP B a z).map fun q => some (bN (fun k => hldV q (LF k)) cnt)
/-- what match answers to words from the i-th on -/
def mtC (T : Nat → Option (Option Int32)) (al : Int32) : Nat → Nat → Int32 → Nat → Nat → Int32 → Int32
  | 0, _, fo, _, te, cb => if te = 0 then (-4) else fo ||| cb
  | n + 1, i, fo, ch, te, cb => match T i with
    | none => (-4)
    | some none => if te = 0 ∨ ch = 4 then (-4) else mtC T al n (i + 1) (fo ||| cb) (ch + 1) 0 al
    | some (some b) => if te = 4 then (-4) else mtC T al n (i + 1) fo ch (te + 1) (cb &&& b)
theorem mt_0 {T : Nat → Option (Option Int32)} {al : Int32} {i : Nat} {fo : Int32} {ch te : Nat} {cb : Int32} : mtC T al 0 i fo ch te cb = if te = 0 then (-4) else fo ||| cb := rfl
theorem mt_n {T : Nat → Option (Option Int32)} {al : Int32} {n i : Nat} {fo : Int32} {ch te : Nat} {cb : Int32} (h : T i = none) : mtC T al (n + 1) i fo ch te cb = (-4) := by rw [mtC, h]
theorem mt_oF {T : Nat → Option (Option Int32)} {al : Int32} {n i : Nat} {fo : Int32} {ch te : Nat} {cb : Int32} (h : T i = some none) (h2 : te = 0 ∨ ch = 4) : mtC T al (n + 1) i fo ch te cb = (-4) := by rw [mtC, h]; exact if_pos h2
theorem mt_oT {T : Nat → Option (Option Int32)} {al : Int32} {n i : Nat} {fo : Int32} {ch te : Nat} {cb : Int32} (h : T i = some none) (h2 : ¬ (te = 0 ∨ ch = 4)) : mtC T al (n + 1) i fo ch te cb = mtC T al n (i + 1) (fo ||| cb) (ch + 1) 0 al := by rw [mtC, h]; exact if_neg h2
theorem mt_t4 {T : Nat → Option (Option Int32)} {al : Int32} {n i : Nat} {fo : Int32} {ch te : Nat} {cb : Int32} (h : ¬ T i = some none) (h2 : te = 4) : mtC T al (n + 1) i fo ch te cb = (-4) := by
  rw [mtC]
  split
  · rfl
  · rename_i z; exact absurd z h
  · exact if_pos h2
theorem mt_tT {T : Nat → Option (Option Int32)} {al : Int32} {n i : Nat} {fo : Int32} {ch te : Nat} {cb b : Int32} (h : T i = some (some b)) (h2 : ¬ te = 4) : mtC T al (n + 1) i fo ch te cb = mtC T al n (i + 1) fo ch (te + 1) (cb &&& b) := by rw [mtC, h]; exact if_neg h2
set_option maxHeartbeats 800000 in
set_option maxRecDepth 100000 in
theorem mVR_addVersionOfTape (l : Launch) (g : kG) (μ : km_M) {xa ta la cd te cnt : Nat} (hxa : μ xa = some (.inr (3, [.ref ta, .ref la, .ref cd, .ref te, .int (nI cnt)]))) (hcnt : cnt ≤ 12) {ba sa oa ln ai zi : Nat} (ht : μ ta = some (.inr (1, [.ref ba, .ref sa, .ref oa, .int (nI ln), .int (nI ai), .int (nI zi)]))) {B : Nat → Nat} (hB : ∀ k, B k < 256) (hb0 : μ ba = some (.inl (g.2.2.1 0, 400, .inl (fun j => sb (B j))))) {S E : Nat → Nat} (hs0 : μ sa = some (.inl (g.2.2.1 1, 200, .inl (fun j => nI (S j))))) (ho0 : μ oa = some (.inl (g.2.2.1 1, 200, .inl (fun j => nI (E j))))) (hso : sa ≠ oa) (hln : ln ≤ 400) {V : Nat → Option Nat} {lv lr lp : Nat → Nat} {LF : Nat → Nat → Int64} (hla : μ la = some (.inl (g.2.2.1 4, 12, .inr (.inr (.inr (.inr V)))))) (hV : ∀ k, k < 12 → V k = some (lv k)) (hL : ∀ k, k < 12 → μ (lv k) = some (.inr (2, [.ref (lr k), .int (nI (lp k))])) ∧ μ (lr k) = some (.inl (g.2.2.1 2, 7, .inr (.inl (LF k))))) {cr cp : Nat} {CF : Nat → Int64} (hcd : μ cd = some (.inr (2, [.ref cr, .int (nI cp)]))) (hcr : μ cr = some (.inl (g.2.2.1 2, 7, .inr (.inl CF)))) (nlc : ∀ k, k < 12 → lv k ≠ cd) (nlr : ∀ k, k < 12 → lr k ≠ cr) : Met l yVR_addVersionOfTape (Cond.code yVR_addVersionOfTape cVR_addVersionOfTape 1 (some .int) :: Wd) ({ frames := 4, cells := 0, slots := 0, locals := 93 } : Room) (kPre g μ [.ref xa]) (kQi g (fun (r : Int32) (μ1 : km_M) => ∃ (S1 E1 : Nat → Nat) (a1 z1 cp1 : Nat) (CF1 : Nat → Int64), (tkV B ln = none ∧ r = (-4) ∧ μ1 = km_up (km_up (km_up (km_up (km_up μ sa (.inl (g.2.2.1 1, 200, .inl (fun j => nI (S1 j))))) oa (.inl (g.2.2.1 1, 200, .inl (fun j => nI (E1 j))))) ta (.inr (1, [.ref ba, .ref sa, .ref oa, .int (nI ln), .int (nI a1), .int (nI z1)]))) cr (.inl (g.2.2.1 2, 7, .inr (.inl CF1)))) cd (.inr (2, [.ref cr, .int (nI cp1)]))) ∨ (∃ v, tkV B ln = some v ∧ cnt = 12 ∧ r = (-3) ∧ μ1 = km_up (km_up (km_up (km_up (km_up μ sa (.inl (g.2.2.1 1, 200, .inl (fun j => nI (S1 j))))) oa (.inl (g.2.2.1 1, 200, .inl (fun j => nI (E1 j))))) ta (.inr (1, [.ref ba, .ref sa, .ref oa, .int (nI ln), .int (nI a1), .int (nI z1)]))) cr (.inl (g.2.2.1 2, 7, .inr (.inl CF1)))) cd (.inr (2, [.ref cr, .int (nI cp1)]))) ∨ (∃ v, tkV B ln = some v ∧ cnt < 12 ∧ r = nI cnt ∧ cp1 = mLen v.2.2.2 ∧ (∀ j, j < 7 → CF1 j = rowOf v j) ∧ μ1 = km_up (km_up (km_up (km_up (km_up (km_up (km_up (km_up μ sa (.inl (g.2.2.1 1, 200, .inl (fun j => nI (S1 j))))) oa (.inl (g.2.2.1 1, 200, .inl (fun j => nI (E1 j))))) ta (.inr (1, [.ref ba, .ref sa, .ref oa, .int (nI ln), .int (nI a1), .int (nI z1)]))) cr (.inl (g.2.2.1 2, 7, .inr (.inl CF1)))) cd (.inr (2, [.ref cr, .int (nI cp1)]))) (lr cnt) (.inl (g.2.2.1 2, 7, .inr (.inl (va_cpy CF1 (LF cnt) 0 0 7))))) (lv cnt) (.inr (2, [.ref (lr cnt), .int (nI cp1)]))) xa (.inr (3, [.ref ta, .ref la, .ref cd, .ref te, .int (nI (cnt + 1))]))))) 0 0 (kF g) := by
  refine k_met (by decide) (Nat.le_of_ble_eq_true rfl) ?_
  intro p e s m below meth c hx hb hr hlocks hml hown hnm hW ls hl H locs hM
  have hl : lv_has ls 1 [(0, .ref xa)] := hl
  refine lv_aload_n hx hb dVR_addVersionOfTape_0 rfl (lv_at hl 0 rfl) ?_
  refine k_get (own := RVR) (ref := RVR) (C := RVR) (T := TVR) (N := 5) (ci := 3) (v := .ref ta) hx hb hW inVR hown hM hxa rfl 0 (by decide) (hW _ w_94) (fun _ h => h) rfl dVR_addVersionOfTape_1 ?_
  refine kc_i (va_runVN (C := RTP) (As := []) (b := ta) (rest := []) (Ts := Wd) ⟨hx, hb, hml, hown, hW⟩ (mTP_splitWords l g μ ht hB hb0 hs0 ho0 hso hln) ⟨(va_cnB 0 hW (k_gC w_137) rfl rfl rfl (hM.2.1.2.1 _ n_134) (hW _ w_2) (by decide +kernel) ⟨Nat.le_of_ble_eq_true rfl, Nat.le_of_ble_eq_true rfl⟩), hW _ w_136, hW _ p_3⟩ (k_preV (q := (RTP, TTP, 6)) hM ht rfl) rfl rfl hl.1 rfl (lv_room (Nat.le_of_ble_eq_true rfl)) dVR_addVersionOfTape_4 ⟨Nat.zero_le _, Nat.zero_le _⟩) hM (fun r μ1 H locs hp hM => ?_)
  obtain ⟨rfl, hmu⟩ := hp
  rw [hmu] at hM
  have hM : kS g (km_up (km_up μ sa (.inl (g.2.2.1 1, 200, .inl (fun j => nI (((spl B S E ln).2.1) j))))) oa (.inl (g.2.2.1 1, 200, .inl (fun j => nI (((spl B S E ln).2.2) j))))) s H locs := hM
  have hsi := spl_ind B S E (fun _ => 0) (fun _ => 0) ln
  have hso1 := spl_ok B S E ln
  have hsb := spl_b B S E ln
  generalize hsp : spl B S E ln = sq at hM hsi hso1 hsb ⊢
  obtain ⟨w, S1, E1⟩ := sq
  have hw2 : 2 * w ≤ ln + 1 := hsb.1
  have hok : ∀ k, k < w → S1 k < E1 k ∧ E1 k ≤ ln := hso1
  have hin : w = (spw B ln).1 ∧ ∀ k, k < w → S1 k = (spw B ln).2.1 k ∧ E1 k = (spw B ln).2.2 k := hsi
  have hM : kS g (km_up (km_up μ sa (.inl (g.2.2.1 1, 200, .inl (fun j => nI (S1 j))))) oa (.inl (g.2.2.1 1, 200, .inl (fun j => nI (E1 j))))) s H locs := hM
  refine topi_eq (y := nI w) rfl ?_
  refine lv_iconst (v := nI 1) hx hb dVR_addVersionOfTape_7 (by decide) ?_
  refine lv_icmp_eq (tgt := 14) hx hb dVR_addVersionOfTape_8 (by decide) (fun h8 => ?_) (fun h8 => ?_)
  · have h8 := (nJ_eq_t (a := w) (b := 1) (by omega) (by omega)).mp h8
    refine lv_aload_n hx hb dVR_addVersionOfTape_14 rfl (lv_at hl 0 rfl) ?_
    refine k_get (own := RVR) (ref := RVR) (C := RVR) (T := TVR) (N := 5) (ci := 3) (v := .ref ta) hx hb hW inVR hown hM ((km_n (km_apB hxa ho0)).trans ((km_n (km_apB hxa hs0)).trans hxa)) rfl 0 (by decide) (hW _ w_94) (fun _ h => h) rfl dVR_addVersionOfTape_15 ?_
    refine lv_iconst (v := nI 0) hx hb dVR_addVersionOfTape_18 (by decide) ?_
    refine kc_v (va_runVN (C := RTP) (As := [.int (nI 0)]) (b := ta) (rest := []) (Ts := Wd) ⟨hx, hb, hml, hown, hW⟩ (mTP_enterWord l g (km_up (km_up μ sa (.inl (g.2.2.1 1, 200, .inl (fun j => nI (S1 j))))) oa (.inl (g.2.2.1 1, 200, .inl (fun j => nI (E1 j))))) ((km_n (km_apB ht ho0)).trans ((km_n (km_apB ht hs0)).trans ht)) ((km_n hso).trans (km_s _ _ _)) (km_s _ _ _) (k := 0) (by omega)) ⟨(va_cnB 1 hW (k_gC w_141) rfl rfl rfl (hM.2.1.2.1 _ n_138) (hW _ w_2) (by decide +kernel) ⟨Nat.le_of_ble_eq_true rfl, Nat.le_of_ble_eq_true rfl⟩), hW _ w_140, hW _ p_4⟩ (k_preV (q := (RTP, TTP, 6)) hM ((km_n (km_apB ht ho0)).trans ((km_n (km_apB ht hs0)).trans ht)) rfl) rfl rfl hl.1 rfl (lv_room (Nat.le_of_ble_eq_true rfl)) dVR_addVersionOfTape_19 ⟨Nat.zero_le _, Nat.zero_le _⟩) hM (fun μ1 H locs hp hM => ?_)
    rw [hp] at hM
    have hse := hok 0 (by omega)
    have hM : kS g (km_up (km_up (km_up μ sa (.inl (g.2.2.1 1, 200, .inl (fun j => nI (S1 j))))) oa (.inl (g.2.2.1 1, 200, .inl (fun j => nI (E1 j))))) ta (.inr (1, [.ref ba, .ref sa, .ref oa, .int (nI ln), .int (nI (S1 0)), .int (nI (E1 0))]))) s H locs := hM
    refine lv_aload_n hx hb dVR_addVersionOfTape_22 rfl (lv_at hl 0 rfl) ?_
    refine k_get (own := RVR) (ref := RVR) (C := RVR) (T := TVR) (N := 5) (ci := 3) (v := .ref cd) hx hb hW inVR hown hM ((km_n (km_apC hxa ht (by decide))).trans ((km_n (km_apB hxa ho0)).trans ((km_n (km_apB hxa hs0)).trans hxa))) rfl 2 (by decide) (hW _ w_96) (fun _ h => h) rfl dVR_addVersionOfTape_23 ?_
    refine lv_aload_n hx hb dVR_addVersionOfTape_26 rfl (lv_at hl 0 rfl) ?_
    refine k_get (own := RVR) (ref := RVR) (C := RVR) (T := TVR) (N := 5) (ci := 3) (v := .ref ta) hx hb hW inVR hown hM ((km_n (km_apC hxa ht (by decide))).trans ((km_n (km_apB hxa ho0)).trans ((km_n (km_apB hxa hs0)).trans hxa))) rfl 0 (by decide) (hW _ w_94) (fun _ h => h) rfl dVR_addVersionOfTape_27 ?_
    refine kc_i (va_runVN (C := RVE) (As := [.ref ta]) (b := cd) (rest := []) (Ts := Wd) ⟨hx, hb, hml, hown, hW⟩ (mVE_readFrom l g (km_up (km_up (km_up μ sa (.inl (g.2.2.1 1, 200, .inl (fun j => nI (S1 j))))) oa (.inl (g.2.2.1 1, 200, .inl (fun j => nI (E1 j))))) ta (.inr (1, [.ref ba, .ref sa, .ref oa, .int (nI ln), .int (nI (S1 0)), .int (nI (E1 0))]))) ((km_n (km_apC hcd ht (by decide))).trans ((km_n (km_apB hcd ho0)).trans ((km_n (km_apB hcd hs0)).trans hcd))) ((km_n (km_apA hcr ht)).trans ((km_n (km_apN hcr ho0 (by decide))).trans ((km_n (km_apN hcr hs0 (by decide))).trans hcr))) (km_s _ _ _) hB ((km_n (km_apA hb0 ht)).trans ((km_n (km_apN hb0 ho0 (by decide))).trans ((km_n (km_apN hb0 hs0 (by decide))).trans hb0))) (by omega) (by omega)) ⟨(va_cnB 1 hW (k_gC w_145) rfl rfl rfl (hM.2.1.2.1 _ n_142) (hW _ w_3) (by decide +kernel) ⟨Nat.le_of_ble_eq_true rfl, Nat.le_of_ble_eq_true rfl⟩), hW _ w_144, hW _ p_5⟩ (k_preV (q := (RVE, TVE, 2)) hM ((km_n (km_apC hcd ht (by decide))).trans ((km_n (km_apB hcd ho0)).trans ((km_n (km_apB hcd hs0)).trans hcd))) rfl) rfl rfl hl.1 rfl (lv_room (Nat.le_of_ble_eq_true rfl)) dVR_addVersionOfTape_30 ⟨Nat.zero_le _, Nat.zero_le _⟩) hM (fun r μ1 H locs hp hM => ?_)
    obtain ⟨F1, pb1, a1, hmu, hcase⟩ := hp
    subst hmu
    have hM : kS g (km_up (km_up (km_up (km_up (km_up (km_up μ sa (.inl (g.2.2.1 1, 200, .inl (fun j => nI (S1 j))))) oa (.inl (g.2.2.1 1, 200, .inl (fun j => nI (E1 j))))) ta (.inr (1, [.ref ba, .ref sa, .ref oa, .int (nI ln), .int (nI (S1 0)), .int (nI (E1 0))]))) ta (.inr (1, [.ref ba, .ref sa, .ref oa, .int (nI ln), .int (nI a1), .int (nI (E1 0))]))) cr (.inl (g.2.2.1 2, 7, .inr (.inl F1)))) cd (.inr (2, [.ref cr, .int (nI pb1)]))) s H locs := hM
    have hM : kS g (km_up (km_up (km_up (km_up (km_up μ sa (.inl (g.2.2.1 1, 200, .inl (fun j => nI (S1 j))))) oa (.inl (g.2.2.1 1, 200, .inl (fun j => nI (E1 j))))) ta (.inr (1, [.ref ba, .ref sa, .ref oa, .int (nI ln), .int (nI a1), .int (nI (E1 0))]))) cr (.inl (g.2.2.1 2, 7, .inr (.inl F1)))) cd (.inr (2, [.ref cr, .int (nI pb1)]))) s H locs := kS_eq (congrArg (fun z => km_up z cd (.inr (2, [.ref cr, .int (nI pb1)]))) (congrArg (fun z => km_up z cr (.inl (g.2.2.1 2, 7, .inr (.inl F1)))) (km_u1 _ _ _ _))) hM
    rcases hcase with ⟨hp1, rfl⟩ | ⟨v1, hp1, rfl, hpb1, hF1⟩
    · skip
      refine lv_if_ne (tgt := 39) hx hb dVR_addVersionOfTape_33 (by decide) (fun h => absurd (by decide) h) (fun _ => ?_)
      refine lv_bipush (v := (-4)) hx hb dVR_addVersionOfTape_36 (by decide) ?_
      exact kr_i hx hb hr hlocks hM dVR_addVersionOfTape_38 (⟨_, _, _, _, _, _, Or.inl ⟨(tk_s (by rw [← hin.1]; exact h8) (hin.2 0 (by omega)).1 (hin.2 0 (by omega)).2).trans hp1, rfl, rfl⟩⟩)
    · skip
      refine lv_if_ne (tgt := 39) hx hb dVR_addVersionOfTape_33 (by decide) (fun _ => ?_) (fun h => absurd h (by decide))
      refine lv_aload_n hx hb dVR_addVersionOfTape_39 rfl (lv_at hl 0 rfl) ?_
      refine k_get (own := RVR) (ref := RVR) (C := RVR) (T := TVR) (N := 5) (ci := 3) (v := .int (nI cnt)) hx hb hW inVR hown hM ((km_n (km_apC hxa hcd (by decide))).trans ((km_n (km_apB hxa hcr)).trans ((km_n (km_apC hxa ht (by decide))).trans ((km_n (km_apB hxa ho0)).trans ((km_n (km_apB hxa hs0)).trans hxa))))) rfl 4 (by decide) (hW _ w_98) (fun _ h => h) rfl dVR_addVersionOfTape_40 ?_
      refine lv_bipush (v := nI 12) hx hb dVR_addVersionOfTape_43 (by decide) ?_
      refine lv_icmp_lt (tgt := 51) hx hb dVR_addVersionOfTape_45 (by decide) (fun h45 => ?_) (fun h45 => ?_)
      · have h45 := (nJ_lt_t (a := cnt) (b := 12) (by omega) (by omega)).mp h45
        refine lv_aload_n hx hb dVR_addVersionOfTape_51 rfl (lv_at hl 0 rfl) ?_
        refine k_get (own := RVR) (ref := RVR) (C := RVR) (T := TVR) (N := 5) (ci := 3) (v := .ref la) hx hb hW inVR hown hM ((km_n (km_apC hxa hcd (by decide))).trans ((km_n (km_apB hxa hcr)).trans ((km_n (km_apC hxa ht (by decide))).trans ((km_n (km_apB hxa ho0)).trans ((km_n (km_apB hxa hs0)).trans hxa))))) rfl 1 (by decide) (hW _ w_95) (fun _ h => h) rfl dVR_addVersionOfTape_52 ?_
        refine lv_aload_n hx hb dVR_addVersionOfTape_55 rfl (lv_at hl 0 rfl) ?_
        refine k_get (own := RVR) (ref := RVR) (C := RVR) (T := TVR) (N := 5) (ci := 3) (v := .int (nI cnt)) hx hb hW inVR hown hM ((km_n (km_apC hxa hcd (by decide))).trans ((km_n (km_apB hxa hcr)).trans ((km_n (km_apC hxa ht (by decide))).trans ((km_n (km_apB hxa ho0)).trans ((km_n (km_apB hxa hs0)).trans hxa))))) rfl 4 (by decide) (hW _ w_98) (fun _ h => h) rfl dVR_addVersionOfTape_56 ?_
        refine k_aald (i := cnt) (r := some (lv cnt)) hx hb hM 4 ((km_n (km_apA hla hcd)).trans ((km_n (km_apN hla hcr (by decide))).trans ((km_n (km_apA hla ht)).trans ((km_n (km_apN hla ho0 (by decide))).trans ((km_n (km_apN hla hs0 (by decide))).trans hla))))) rfl (by omega) (by omega) (hV _ (by omega)) dVR_addVersionOfTape_59 ?_
        refine lv_aload_n hx hb dVR_addVersionOfTape_60 rfl (lv_at hl 0 rfl) ?_
        refine k_get (own := RVR) (ref := RVR) (C := RVR) (T := TVR) (N := 5) (ci := 3) (v := .ref cd) hx hb hW inVR hown hM ((km_n (km_apC hxa hcd (by decide))).trans ((km_n (km_apB hxa hcr)).trans ((km_n (km_apC hxa ht (by decide))).trans ((km_n (km_apB hxa ho0)).trans ((km_n (km_apB hxa hs0)).trans hxa))))) rfl 2 (by decide) (hW _ w_96) (fun _ h => h) rfl dVR_addVersionOfTape_61 ?_
        refine kc_v (va_runVN (C := RVE) (As := [.ref cd]) (b := lv cnt) (rest := []) (Ts := Wd) ⟨hx, hb, hml, hown, hW⟩ (mVE_copyFrom l g (km_up (km_up (km_up (km_up (km_up μ sa (.inl (g.2.2.1 1, 200, .inl (fun j => nI (S1 j))))) oa (.inl (g.2.2.1 1, 200, .inl (fun j => nI (E1 j))))) ta (.inr (1, [.ref ba, .ref sa, .ref oa, .int (nI ln), .int (nI a1), .int (nI (E1 0))]))) cr (.inl (g.2.2.1 2, 7, .inr (.inl F1)))) cd (.inr (2, [.ref cr, .int (nI pb1)]))) ((km_n (nlc cnt (by omega))).trans ((km_n (km_apB (hL cnt (by omega)).1 hcr)).trans ((km_n (km_apC (hL cnt (by omega)).1 ht (by decide))).trans ((km_n (km_apB (hL cnt (by omega)).1 ho0)).trans ((km_n (km_apB (hL cnt (by omega)).1 hs0)).trans (hL cnt (by omega)).1))))) ((km_n (km_apA (hL cnt (by omega)).2 hcd)).trans ((km_n (nlr cnt (by omega))).trans ((km_n (km_apA (hL cnt (by omega)).2 ht)).trans ((km_n (km_apN (hL cnt (by omega)).2 ho0 (by decide))).trans ((km_n (km_apN (hL cnt (by omega)).2 hs0 (by decide))).trans (hL cnt (by omega)).2))))) (km_s _ _ _) ((km_n (km_apA hcr hcd)).trans (km_s _ _ _))) ⟨(va_cnB 1 hW (k_gC w_186) rfl rfl rfl (hM.2.1.2.1 _ n_183) (hW _ w_3) (by decide +kernel) ⟨Nat.le_of_ble_eq_true rfl, Nat.le_of_ble_eq_true rfl⟩), hW _ w_185, hW _ p_13⟩ (k_preV (q := (RVE, TVE, 2)) hM ((km_n (nlc cnt (by omega))).trans ((km_n (km_apB (hL cnt (by omega)).1 hcr)).trans ((km_n (km_apC (hL cnt (by omega)).1 ht (by decide))).trans ((km_n (km_apB (hL cnt (by omega)).1 ho0)).trans ((km_n (km_apB (hL cnt (by omega)).1 hs0)).trans (hL cnt (by omega)).1))))) rfl) rfl rfl hl.1 rfl (lv_room (Nat.le_of_ble_eq_true rfl)) dVR_addVersionOfTape_64 ⟨Nat.zero_le _, Nat.zero_le _⟩) hM (fun μ1 H locs hp hM => ?_)
        rw [hp] at hM
        have hM : kS g (km_up (km_up (km_up (km_up (km_up (km_up (km_up μ sa (.inl (g.2.2.1 1, 200, .inl (fun j => nI (S1 j))))) oa (.inl (g.2.2.1 1, 200, .inl (fun j => nI (E1 j))))) ta (.inr (1, [.ref ba, .ref sa, .ref oa, .int (nI ln), .int (nI a1), .int (nI (E1 0))]))) cr (.inl (g.2.2.1 2, 7, .inr (.inl F1)))) cd (.inr (2, [.ref cr, .int (nI pb1)]))) (lr cnt) (.inl (g.2.2.1 2, 7, .inr (.inl (va_cpy F1 (LF cnt) 0 0 7))))) (lv cnt) (.inr (2, [.ref (lr cnt), .int (nI pb1)]))) s H locs := hM
        refine lv_aload_n hx hb dVR_addVersionOfTape_67 rfl (lv_at hl 0 rfl) ?_
        refine lv_dup hx hb dVR_addVersionOfTape_68 rfl ?_
        refine k_get (own := RVR) (ref := RVR) (C := RVR) (T := TVR) (N := 5) (ci := 3) (v := .int (nI cnt)) hx hb hW inVR hown hM ((km_n (km_apC hxa (hL cnt (by omega)).1 (by decide))).trans ((km_n (km_apB hxa (hL cnt (by omega)).2)).trans ((km_n (km_apC hxa hcd (by decide))).trans ((km_n (km_apB hxa hcr)).trans ((km_n (km_apC hxa ht (by decide))).trans ((km_n (km_apB hxa ho0)).trans ((km_n (km_apB hxa hs0)).trans hxa))))))) rfl 4 (by decide) (hW _ w_98) (fun _ h => h) rfl dVR_addVersionOfTape_69 ?_
        refine lv_iconst (v := nI 1) hx hb dVR_addVersionOfTape_72 (by decide) ?_
        refine lv_iadd hx hb dVR_addVersionOfTape_73 ?_
        refine topi_eq (y := nI (cnt + 1)) (nI_add cnt 1) ?_
        refine k_put (own := RVR) (ref := RVR) (C := RVR) (T := TVR) (N := 5) (ci := 3) (v := .int (nI (cnt + 1))) (ty := .int) (fs' := [.ref ta, .ref la, .ref cd, .ref te, .int (nI (cnt + 1))]) hx hb hW inVR tyVR tyokVR nmokVR hown hM ((km_n (km_apC hxa (hL cnt (by omega)).1 (by decide))).trans ((km_n (km_apB hxa (hL cnt (by omega)).2)).trans ((km_n (km_apC hxa hcd (by decide))).trans ((km_n (km_apB hxa hcr)).trans ((km_n (km_apC hxa ht (by decide))).trans ((km_n (km_apB hxa ho0)).trans ((km_n (km_apB hxa hs0)).trans hxa))))))) rfl 4 (by decide) (hW _ w_98) (fun _ h => h) rfl (by decide +kernel) rfl rfl (Nat.le_of_ble_eq_true rfl) dVR_addVersionOfTape_74 rfl (fun H locs hM => ?_)
        have hM : kS g (km_up (km_up (km_up (km_up (km_up (km_up (km_up (km_up μ sa (.inl (g.2.2.1 1, 200, .inl (fun j => nI (S1 j))))) oa (.inl (g.2.2.1 1, 200, .inl (fun j => nI (E1 j))))) ta (.inr (1, [.ref ba, .ref sa, .ref oa, .int (nI ln), .int (nI a1), .int (nI (E1 0))]))) cr (.inl (g.2.2.1 2, 7, .inr (.inl F1)))) cd (.inr (2, [.ref cr, .int (nI pb1)]))) (lr cnt) (.inl (g.2.2.1 2, 7, .inr (.inl (va_cpy F1 (LF cnt) 0 0 7))))) (lv cnt) (.inr (2, [.ref (lr cnt), .int (nI pb1)]))) xa (.inr (3, [.ref ta, .ref la, .ref cd, .ref te, .int (nI (cnt + 1))]))) s H locs := hM
        refine lv_aload_n hx hb dVR_addVersionOfTape_77 rfl (lv_at hl 0 rfl) ?_
        refine k_get (own := RVR) (ref := RVR) (C := RVR) (T := TVR) (N := 5) (ci := 3) (v := .int (nI (cnt + 1))) hx hb hW inVR hown hM (km_s _ _ _) rfl 4 (by decide) (hW _ w_98) (fun _ h => h) rfl dVR_addVersionOfTape_78 ?_
        refine lv_iconst (v := nI 1) hx hb dVR_addVersionOfTape_81 (by decide) ?_
        refine lv_isub hx hb dVR_addVersionOfTape_82 ?_
        refine topi_eq (y := nI cnt) (pk_sub (a := cnt + 1) (b := 1) (by omega)) ?_
        exact kr_i hx hb hr hlocks hM dVR_addVersionOfTape_83 (⟨_, _, _, _, _, _, Or.inr (Or.inr ⟨v1, (tk_s (by rw [← hin.1]; exact h8) (hin.2 0 (by omega)).1 (hin.2 0 (by omega)).2).trans hp1, by omega, rfl, hpb1, hF1, rfl⟩)⟩)
      · have h45 := (nJ_lt_f (a := cnt) (b := 12) (by omega) (by omega)).mp h45
        refine lv_bipush (v := (-3)) hx hb dVR_addVersionOfTape_48 (by decide) ?_
        exact kr_i hx hb hr hlocks hM dVR_addVersionOfTape_50 (⟨_, _, _, _, _, _, Or.inr (Or.inl ⟨v1, (tk_s (by rw [← hin.1]; exact h8) (hin.2 0 (by omega)).1 (hin.2 0 (by omega)).2).trans hp1, by omega, rfl, rfl⟩)⟩)
  · have h8 := (nJ_eq_f (a := w) (b := 1) (by omega) (by omega)).mp h8
    refine lv_bipush (v := (-4)) hx hb dVR_addVersionOfTape_11 (by decide) ?_
    exact kr_i hx hb hr hlocks hM dVR_addVersionOfTape_13 (⟨_, _, _, _, _, _, Or.inl ⟨tk_n (by rw [← hin.1]; exact h8), rfl, (by rw [km_id ((km_n (km_apB ht ho0)).trans ((km_n (km_apB ht hs0)).trans ht)), km_id ((km_n (km_apN hcr ho0 (by decide))).trans ((km_n (km_apN hcr hs0 (by decide))).trans hcr)), km_id ((km_n (km_apB hcd ho0)).trans ((km_n (km_apB hcd hs0)).trans hcd))])⟩⟩)
set_option maxHeartbeats 800000 in
set_option maxRecDepth 100000 in
theorem mVR_take (l : Launch) (g : kG) (μ : km_M) {xa ta la cd te cnt : Nat} (hxa : μ xa = some (.inr (3, [.ref ta, .ref la, .ref cd, .ref te, .int (nI cnt)]))) (hcnt : cnt ≤ 12) {ba sa oa ln ai zi : Nat} (ht : μ ta = some (.inr (1, [.ref ba, .ref sa, .ref oa, .int (nI ln), .int (nI ai), .int (nI zi)]))) {B : Nat → Nat} (hB : ∀ k, B k < 256) (hb0 : μ ba = some (.inl (g.2.2.1 0, 400, .inl (fun j => sb (B j))))) {S E : Nat → Nat} (hs0 : μ sa = some (.inl (g.2.2.1 1, 200, .inl (fun j => nI (S j))))) (ho0 : μ oa = some (.inl (g.2.2.1 1, 200, .inl (fun j => nI (E j))))) (hso : sa ≠ oa) (hln : ln ≤ 400) {V : Nat → Option Nat} {lv lr lp : Nat → Nat} {LF : Nat → Nat → Int64} (hla : μ la = some (.inl (g.2.2.1 4, 12, .inr (.inr (.inr (.inr V)))))) (hV : ∀ k, k < 12 → V k = some (lv k)) (hL : ∀ k, k < 12 → μ (lv k) = some (.inr (2, [.ref (lr k), .int (nI (lp k))])) ∧ μ (lr k) = some (.inl (g.2.2.1 2, 7, .inr (.inl (LF k))))) {cr cp : Nat} {CF : Nat → Int64} (hcd : μ cd = some (.inr (2, [.ref cr, .int (nI cp)]))) (hcr : μ cr = some (.inl (g.2.2.1 2, 7, .inr (.inl CF)))) (nlc : ∀ k, k < 12 → lv k ≠ cd) (nlr : ∀ k, k < 12 → lr k ≠ cr) : Met l yVR_take (Cond.code yVR_take cVR_take 2 (some .int) :: Wd) ({ frames := 5, cells := 0, slots := 0, locals := 113 } : Room) (kPre g μ [.ref xa]) (kQi g (fun (r : Int32) (μ1 : km_M) => ∃ (S1 E1 : Nat → Nat) (a1 z1 cp1 : Nat) (CF1 : Nat → Int64), (tkV B ln = none ∧ r = (-4) ∧ μ1 = km_up (km_up (km_up (km_up (km_up μ sa (.inl (g.2.2.1 1, 200, .inl (fun j => nI (S1 j))))) oa (.inl (g.2.2.1 1, 200, .inl (fun j => nI (E1 j))))) ta (.inr (1, [.ref ba, .ref sa, .ref oa, .int (nI 0), .int (nI a1), .int (nI z1)]))) cr (.inl (g.2.2.1 2, 7, .inr (.inl CF1)))) cd (.inr (2, [.ref cr, .int (nI cp1)]))) ∨ (∃ v, tkV B ln = some v ∧ cnt = 12 ∧ r = (-3) ∧ μ1 = km_up (km_up (km_up (km_up (km_up μ sa (.inl (g.2.2.1 1, 200, .inl (fun j => nI (S1 j))))) oa (.inl (g.2.2.1 1, 200, .inl (fun j => nI (E1 j))))) ta (.inr (1, [.ref ba, .ref sa, .ref oa, .int (nI 0), .int (nI a1), .int (nI z1)]))) cr (.inl (g.2.2.1 2, 7, .inr (.inl CF1)))) cd (.inr (2, [.ref cr, .int (nI cp1)]))) ∨ (∃ v, tkV B ln = some v ∧ cnt < 12 ∧ r = nI cnt ∧ cp1 = mLen v.2.2.2 ∧ (∀ j, j < 7 → CF1 j = rowOf v j) ∧ μ1 = km_up (km_up (km_up (km_up (km_up (km_up (km_up (km_up μ sa (.inl (g.2.2.1 1, 200, .inl (fun j => nI (S1 j))))) oa (.inl (g.2.2.1 1, 200, .inl (fun j => nI (E1 j))))) ta (.inr (1, [.ref ba, .ref sa, .ref oa, .int (nI 0), .int (nI a1), .int (nI z1)]))) cr (.inl (g.2.2.1 2, 7, .inr (.inl CF1)))) cd (.inr (2, [.ref cr, .int (nI cp1)]))) (lr cnt) (.inl (g.2.2.1 2, 7, .inr (.inl (va_cpy CF1 (LF cnt) 0 0 7))))) (lv cnt) (.inr (2, [.ref (lr cnt), .int (nI cp1)]))) xa (.inr (3, [.ref ta, .ref la, .ref cd, .ref te, .int (nI (cnt + 1))]))))) 0 0 (kF g) := by
  refine k_met (by decide) (Nat.le_of_ble_eq_true rfl) ?_
  intro p e s m below meth c hx hb hr hlocks hml hown hnm hW ls hl H locs hM
  have hl : lv_has ls 2 [(0, .ref xa)] := hl
  refine lv_aload_n hx hb dVR_take_0 rfl (lv_at hl 0 rfl) ?_
  refine kc_i (va_runV (C := RVR) (As := []) (b := xa) (rest := []) (Ts := Wd) ⟨hx, hb, hml, hown, hW⟩ (mVR_addVersionOfTape l g μ hxa hcnt ht hB hb0 hs0 ho0 hso hln hla hV hL hcd hcr nlc nlr) (cwV 0 hW (k_gV w_130 w_132 p_2 w_1 w_133) rfl rfl rfl (by decide +kernel) ⟨Nat.le_of_ble_eq_true rfl, Nat.le_of_ble_eq_true rfl⟩) (k_preV (q := (RVR, TVR, 5)) hM hxa rfl) rfl rfl hl.1 rfl (lv_room (Nat.le_of_ble_eq_true rfl)) dVR_take_1 ⟨Nat.zero_le _, Nat.zero_le _⟩) hM (fun r μ1 H locs hp hM => ?_)
  obtain ⟨S1, E1, a1, z1, cp1, CF1, hcase⟩ := hp
  rcases hcase with ⟨htk, rfl, hmu⟩ | ⟨v, htk, hc12, rfl, hmu⟩ | ⟨v, htk, hc12, rfl, hcp, hCF, hmu⟩
  · rw [hmu] at hM
    have hM : kS g (km_up (km_up (km_up (km_up (km_up μ sa (.inl (g.2.2.1 1, 200, .inl (fun j => nI (S1 j))))) oa (.inl (g.2.2.1 1, 200, .inl (fun j => nI (E1 j))))) ta (.inr (1, [.ref ba, .ref sa, .ref oa, .int (nI ln), .int (nI a1), .int (nI z1)]))) cr (.inl (g.2.2.1 2, 7, .inr (.inl CF1)))) cd (.inr (2, [.ref cr, .int (nI cp1)]))) s H locs := hM
    refine lv_istore_n (lv' := [(1, .int (-4)), (0, .ref xa)]) hx hb dVR_take_4 rfl hl (by decide) rfl (fun ls hl => ?_)
    refine lv_aload_n hx hb dVR_take_5 rfl (lv_at hl 1 rfl) ?_
    refine k_get (own := RVR) (ref := RVR) (C := RVR) (T := TVR) (N := 5) (ci := 3) (v := .ref ta) hx hb hW inVR hown hM ((km_n (km_apC hxa hcd (by decide))).trans ((km_n (km_apB hxa hcr)).trans ((km_n (km_apC hxa ht (by decide))).trans ((km_n (km_apB hxa ho0)).trans ((km_n (km_apB hxa hs0)).trans hxa))))) rfl 0 (by decide) (hW _ w_94) (fun _ h => h) rfl dVR_take_6 ?_
    refine lv_iconst (v := nI 0) hx hb dVR_take_9 (by decide) ?_
    refine k_putN (own := RVR) (ref := RTP) (C := RTP) (T := TTP) (N := 6) (ci := 1) (v := .int (nI 0)) (ty := .int) (fs' := [.ref ba, .ref sa, .ref oa, .int (nI 0), .int (nI a1), .int (nI z1)]) hx hb hW inTP tyTP tyokTP nmokTP hown hM ((km_n (km_apC ht hcd (by decide))).trans ((km_n (km_apB ht hcr)).trans (km_s _ _ _))) rfl 3 (by decide) (va_Nw.use rfl (hM.2.1.2.1 _ n_38)) (fun _ h => h) rfl (by decide +kernel) rfl rfl (Nat.le_of_ble_eq_true rfl) dVR_take_10 rfl (fun H locs hM => ?_)
    have hM : kS g (km_up (km_up (km_up (km_up (km_up μ sa (.inl (g.2.2.1 1, 200, .inl (fun j => nI (S1 j))))) oa (.inl (g.2.2.1 1, 200, .inl (fun j => nI (E1 j))))) ta (.inr (1, [.ref ba, .ref sa, .ref oa, .int (nI 0), .int (nI a1), .int (nI z1)]))) cr (.inl (g.2.2.1 2, 7, .inr (.inl CF1)))) cd (.inr (2, [.ref cr, .int (nI cp1)]))) s H locs := kS_eq (km_u3 _ _ _ _ _ (km_apB ht hcr) (km_apC ht hcd (by decide))) hM
    refine lv_iload_n hx hb dVR_take_13 rfl (lv_at hl 0 rfl) ?_
    exact kr_i hx hb hr hlocks hM dVR_take_14 (⟨_, _, _, _, _, _, Or.inl ⟨htk, rfl, rfl⟩⟩)
  · rw [hmu] at hM
    have hM : kS g (km_up (km_up (km_up (km_up (km_up μ sa (.inl (g.2.2.1 1, 200, .inl (fun j => nI (S1 j))))) oa (.inl (g.2.2.1 1, 200, .inl (fun j => nI (E1 j))))) ta (.inr (1, [.ref ba, .ref sa, .ref oa, .int (nI ln), .int (nI a1), .int (nI z1)]))) cr (.inl (g.2.2.1 2, 7, .inr (.inl CF1)))) cd (.inr (2, [.ref cr, .int (nI cp1)]))) s H locs := hM
    refine lv_istore_n (lv' := [(1, .int (-3)), (0, .ref xa)]) hx hb dVR_take_4 rfl hl (by decide) rfl (fun ls hl => ?_)
    refine lv_aload_n hx hb dVR_take_5 rfl (lv_at hl 1 rfl) ?_
    refine k_get (own := RVR) (ref := RVR) (C := RVR) (T := TVR) (N := 5) (ci := 3) (v := .ref ta) hx hb hW inVR hown hM ((km_n (km_apC hxa hcd (by decide))).trans ((km_n (km_apB hxa hcr)).trans ((km_n (km_apC hxa ht (by decide))).trans ((km_n (km_apB hxa ho0)).trans ((km_n (km_apB hxa hs0)).trans hxa))))) rfl 0 (by decide) (hW _ w_94) (fun _ h => h) rfl dVR_take_6 ?_
    refine lv_iconst (v := nI 0) hx hb dVR_take_9 (by decide) ?_
    refine k_putN (own := RVR) (ref := RTP) (C := RTP) (T := TTP) (N := 6) (ci := 1) (v := .int (nI 0)) (ty := .int) (fs' := [.ref ba, .ref sa, .ref oa, .int (nI 0), .int (nI a1), .int (nI z1)]) hx hb hW inTP tyTP tyokTP nmokTP hown hM ((km_n (km_apC ht hcd (by decide))).trans ((km_n (km_apB ht hcr)).trans (km_s _ _ _))) rfl 3 (by decide) (va_Nw.use rfl (hM.2.1.2.1 _ n_38)) (fun _ h => h) rfl (by decide +kernel) rfl rfl (Nat.le_of_ble_eq_true rfl) dVR_take_10 rfl (fun H locs hM => ?_)
    have hM : kS g (km_up (km_up (km_up (km_up (km_up μ sa (.inl (g.2.2.1 1, 200, .inl (fun j => nI (S1 j))))) oa (.inl (g.2.2.1 1, 200, .inl (fun j => nI (E1 j))))) ta (.inr (1, [.ref ba, .ref sa, .ref oa, .int (nI 0), .int (nI a1), .int (nI z1)]))) cr (.inl (g.2.2.1 2, 7, .inr (.inl CF1)))) cd (.inr (2, [.ref cr, .int (nI cp1)]))) s H locs := kS_eq (km_u3 _ _ _ _ _ (km_apB ht hcr) (km_apC ht hcd (by decide))) hM
    refine lv_iload_n hx hb dVR_take_13 rfl (lv_at hl 0 rfl) ?_
    exact kr_i hx hb hr hlocks hM dVR_take_14 (⟨_, _, _, _, _, _, Or.inr (Or.inl ⟨v, htk, hc12, rfl, rfl⟩)⟩)
  · rw [hmu] at hM
    have hM : kS g (km_up (km_up (km_up (km_up (km_up (km_up (km_up (km_up μ sa (.inl (g.2.2.1 1, 200, .inl (fun j => nI (S1 j))))) oa (.inl (g.2.2.1 1, 200, .inl (fun j => nI (E1 j))))) ta (.inr (1, [.ref ba, .ref sa, .ref oa, .int (nI ln), .int (nI a1), .int (nI z1)]))) cr (.inl (g.2.2.1 2, 7, .inr (.inl CF1)))) cd (.inr (2, [.ref cr, .int (nI cp1)]))) (lr cnt) (.inl (g.2.2.1 2, 7, .inr (.inl (va_cpy CF1 (LF cnt) 0 0 7))))) (lv cnt) (.inr (2, [.ref (lr cnt), .int (nI cp1)]))) xa (.inr (3, [.ref ta, .ref la, .ref cd, .ref te, .int (nI (cnt + 1))]))) s H locs := hM
    refine lv_istore_n (lv' := [(1, .int (nI cnt)), (0, .ref xa)]) hx hb dVR_take_4 rfl hl (by decide) rfl (fun ls hl => ?_)
    refine lv_aload_n hx hb dVR_take_5 rfl (lv_at hl 1 rfl) ?_
    refine k_get (own := RVR) (ref := RVR) (C := RVR) (T := TVR) (N := 5) (ci := 3) (v := .ref ta) hx hb hW inVR hown hM (km_s _ _ _) rfl 0 (by decide) (hW _ w_94) (fun _ h => h) rfl dVR_take_6 ?_
    refine lv_iconst (v := nI 0) hx hb dVR_take_9 (by decide) ?_
    refine k_putN (own := RVR) (ref := RTP) (C := RTP) (T := TTP) (N := 6) (ci := 1) (v := .int (nI 0)) (ty := .int) (fs' := [.ref ba, .ref sa, .ref oa, .int (nI 0), .int (nI a1), .int (nI z1)]) hx hb hW inTP tyTP tyokTP nmokTP hown hM ((km_n (km_apC ht hxa (by decide))).trans ((km_n (km_apC ht (hL cnt (by omega)).1 (by decide))).trans ((km_n (km_apB ht (hL cnt (by omega)).2)).trans ((km_n (km_apC ht hcd (by decide))).trans ((km_n (km_apB ht hcr)).trans (km_s _ _ _)))))) rfl 3 (by decide) (va_Nw.use rfl (hM.2.1.2.1 _ n_38)) (fun _ h => h) rfl (by decide +kernel) rfl rfl (Nat.le_of_ble_eq_true rfl) dVR_take_10 rfl (fun H locs hM => ?_)
    have hM : kS g (km_up (km_up (km_up (km_up (km_up (km_up (km_up (km_up μ sa (.inl (g.2.2.1 1, 200, .inl (fun j => nI (S1 j))))) oa (.inl (g.2.2.1 1, 200, .inl (fun j => nI (E1 j))))) ta (.inr (1, [.ref ba, .ref sa, .ref oa, .int (nI 0), .int (nI a1), .int (nI z1)]))) cr (.inl (g.2.2.1 2, 7, .inr (.inl CF1)))) cd (.inr (2, [.ref cr, .int (nI cp1)]))) (lr cnt) (.inl (g.2.2.1 2, 7, .inr (.inl (va_cpy CF1 (LF cnt) 0 0 7))))) (lv cnt) (.inr (2, [.ref (lr cnt), .int (nI cp1)]))) xa (.inr (3, [.ref ta, .ref la, .ref cd, .ref te, .int (nI (cnt + 1))]))) s H locs := kS_eq (km_u6 _ _ _ _ _ _ _ _ (km_apB ht hcr) (km_apC ht hcd (by decide)) (km_apB ht (hL cnt (by omega)).2) (km_apC ht (hL cnt (by omega)).1 (by decide)) (km_apC ht hxa (by decide))) hM
    refine lv_iload_n hx hb dVR_take_13 rfl (lv_at hl 0 rfl) ?_
    exact kr_i hx hb hr hlocks hM dVR_take_14 (⟨_, _, _, _, _, _, Or.inr (Or.inr ⟨v, htk, hc12, rfl, hcp, hCF, rfl⟩)⟩)
set_option maxHeartbeats 800000 in
set_option maxRecDepth 100000 in
theorem mVR_allBits (l : Launch) (g : kG) (μ : km_M) {xa ta la cd te cnt : Nat} (hxa : μ xa = some (.inr (3, [.ref ta, .ref la, .ref cd, .ref te, .int (nI cnt)]))) (hcnt : cnt ≤ 12) : Met l yVR_allBits (Cond.code yVR_allBits cVR_allBits 1 (some .int) :: Wd) ({ frames := 0, cells := 0, slots := 0, locals := 0 } : Room) (kPre g μ [.ref xa]) (kQi g (fun (r : Int32) (μ1 : km_M) => r = bN (fun _ => true) cnt ∧ μ1 = μ)) 0 0 (kF g) := by
  refine k_met (by decide) (Nat.le_of_ble_eq_true rfl) ?_
  intro p e s m below meth c hx hb hr hlocks hml hown hnm hW ls hl H locs hM
  have hl : lv_has ls 1 [(0, .ref xa)] := hl
  refine lv_iconst (v := nI 1) hx hb dVR_allBits_0 (by decide) ?_
  refine lv_aload_n hx hb dVR_allBits_1 rfl (lv_at hl 0 rfl) ?_
  refine k_get (own := RVR) (ref := RVR) (C := RVR) (T := TVR) (N := 5) (ci := 3) (v := .int (nI cnt)) hx hb hW inVR hown hM hxa rfl 4 (by decide) (hW _ w_98) (fun _ h => h) rfl dVR_allBits_2 ?_
  refine lv_ishl hx hb dVR_allBits_5 ?_
  refine lv_iconst (v := nI 1) hx hb dVR_allBits_6 (by decide) ?_
  refine lv_isub hx hb dVR_allBits_7 ?_
  refine topi_eq (y := (nI 1 <<< (nI cnt &&& 31)) - nI 1) rfl ?_
  exact kr_i hx hb hr hlocks hM dVR_allBits_8 (⟨bN_all cnt hcnt, rfl⟩)
set_option maxHeartbeats 800000 in
set_option maxRecDepth 100000 in
theorem mVR_bitsOfTest (l : Launch) (g : kG) (μ : km_M) {xa ta la cd te cnt : Nat} (hxa : μ xa = some (.inr (3, [.ref ta, .ref la, .ref cd, .ref te, .int (nI cnt)]))) (hcnt : cnt ≤ 12) {V : Nat → Option Nat} {lv lr lp : Nat → Nat} {LF : Nat → Nat → Int64} (hla : μ la = some (.inl (g.2.2.1 4, 12, .inr (.inr (.inr (.inr V)))))) (hV : ∀ k, k < 12 → V k = some (lv k)) (hL : ∀ k, k < 12 → μ (lv k) = some (.inr (2, [.ref (lr k), .int (nI (lp k))])) ∧ μ (lr k) = some (.inl (g.2.2.1 2, 7, .inr (.inl (LF k))))) {bo co k : Nat} (hte : μ te = some (.inr (0, [.ref bo, .ref co, .ref (g.2.2.2.1 k)]))) (hk8 : k < 8) {br bp : Nat} {Fb : Nat → Int64} (hbo : μ bo = some (.inr (2, [.ref br, .int (nI bp)]))) (hbr : μ br = some (.inl (g.2.2.1 2, 7, .inr (.inl Fb)))) {er ep : Nat} {Fc : Nat → Int64} (hco : μ co = some (.inr (2, [.ref er, .int (nI ep)]))) (her : μ er = some (.inl (g.2.2.1 2, 7, .inr (.inl Fc)))) : Met l yVR_bitsOfTest (Cond.code yVR_bitsOfTest cVR_bitsOfTest 3 (some .int) :: Wd) ({ frames := 2, cells := 0, slots := 0, locals := 44 } : Room) (kPre g μ [.ref xa]) (kQi g (fun (r : Int32) (μ1 : km_M) => r = bN (fun j => hldR k Fb Fc (LF j)) cnt ∧ μ1 = μ)) 0 0 (kF g) := by
  refine k_met (by decide) (Nat.le_of_ble_eq_true rfl) ?_
  intro p e s m below meth c hx hb hr hlocks hml hown hnm hW ls hl H locs hM
  have hl : lv_has ls 3 [(0, .ref xa)] := hl
  have cut4 : ∀ (n : Nat), ∀ (j : Nat), cnt - j < n → j ≤ cnt → ∀ (ls : Array Slot) (H : Heap) (locs : List Loc), lv_has ls 3 [(0, .ref xa), (1, .int (bN (fun j => hldR k Fb Fc (LF j)) j)), (2, .int (nI j))] → kS g (μ) s H locs → W p l e ({ frames := 2, cells := 0, slots := 0, locals := 44 } : Room) s m [.ref xa].toArray below meth c H locs 0 0 (MQ below (kQi g (fun (r : Int32) (μ1 : km_M) => r = bN (fun j => hldR k Fb Fc (LF j)) cnt ∧ μ1 = μ)) [.ref xa].toArray s 0 0 (kF g)) (F0 m 4 ls []) := by
    intro n
    induction n with
    | zero => intro j hlt; exact absurd hlt (Nat.not_lt_zero _)
    | succ n ih =>
      intro j hlt hj ls H locs hl hM
      refine lv_iload_n hx hb dVR_bitsOfTest_4 rfl (lv_at hl 2 rfl) ?_
      refine lv_aload_n hx hb dVR_bitsOfTest_5 rfl (lv_at hl 0 rfl) ?_
      refine k_get (own := RVR) (ref := RVR) (C := RVR) (T := TVR) (N := 5) (ci := 3) (v := .int (nI cnt)) hx hb hW inVR hown hM hxa rfl 4 (by decide) (hW _ w_98) (fun _ h => h) rfl dVR_bitsOfTest_6 ?_
      refine lv_icmp_ge (tgt := 40) hx hb dVR_bitsOfTest_9 (by decide) (fun h9 => ?_) (fun h9 => ?_)
      · have h9 := (nJ_ge_t (a := j) (b := cnt) (by omega) (by omega)).mp h9
        refine lv_iload_n hx hb dVR_bitsOfTest_40 rfl (lv_at hl 1 rfl) ?_
        exact kr_i hx hb hr hlocks hM dVR_bitsOfTest_41 (⟨by rw [show cnt = j by omega], rfl⟩)
      · have h9 := (nJ_ge_f (a := j) (b := cnt) (by omega) (by omega)).mp h9
        refine lv_aload_n hx hb dVR_bitsOfTest_12 rfl (lv_at hl 0 rfl) ?_
        refine k_get (own := RVR) (ref := RVR) (C := RVR) (T := TVR) (N := 5) (ci := 3) (v := .ref te) hx hb hW inVR hown hM hxa rfl 3 (by decide) (hW _ w_97) (fun _ h => h) rfl dVR_bitsOfTest_13 ?_
        refine lv_aload_n hx hb dVR_bitsOfTest_16 rfl (lv_at hl 0 rfl) ?_
        refine k_get (own := RVR) (ref := RVR) (C := RVR) (T := TVR) (N := 5) (ci := 3) (v := .ref la) hx hb hW inVR hown hM hxa rfl 1 (by decide) (hW _ w_95) (fun _ h => h) rfl dVR_bitsOfTest_17 ?_
        refine lv_iload_n hx hb dVR_bitsOfTest_20 rfl (lv_at hl 2 rfl) ?_
        refine k_aald (i := j) (r := some (lv j)) hx hb hM 4 hla rfl (by omega) (by omega) (hV _ (by omega)) dVR_bitsOfTest_21 ?_
        refine kc_i (va_runVN (C := RRT) (As := [.ref (lv j)]) (b := te) (rest := []) (Ts := Wd) ⟨hx, hb, hml, hown, hW⟩ (mRT_holdsFor l g μ hte hk8 hbo hbr hco her (hL j (by omega)).1 (hL j (by omega)).2) ⟨(va_cnB 1 hW (k_gC w_270) rfl rfl rfl (hM.2.1.2.1 _ n_267) (hW _ w_4) (by decide +kernel) ⟨Nat.le_of_ble_eq_true rfl, Nat.le_of_ble_eq_true rfl⟩), hW _ w_269, hW _ p_24⟩ (k_preV (q := (RRT, TRT, 3)) hM hte rfl) rfl rfl hl.1 rfl (lv_room (Nat.le_of_ble_eq_true rfl)) dVR_bitsOfTest_22 ⟨Nat.zero_le _, Nat.zero_le _⟩) hM (fun r μ1 H locs hp hM => ?_)
        obtain ⟨rfl, hmu⟩ := hp
        rw [hmu] at hM
        refine lv_if_eq (tgt := 34) hx hb dVR_bitsOfTest_25 (by decide) (fun h25 => ?_) (fun h25 => ?_)
        · have h25 := bD_0.mp h25
          refine lv_iinc (v := nI (j + 1)) (lv' := [(2, .int (nI (j + 1))), (0, .ref xa), (1, .int (bN (fun j => hldR k Fb Fc (LF j)) j))]) (k := 2) hx hb dVR_bitsOfTest_34 hl rfl (ii1 j) (by decide) rfl (fun ls hl => ?_)
          refine lv_goto (tgt := 4) hx hb dVR_bitsOfTest_37 (by decide) ?_
          try rw [← bN_f (f := fun j => hldR k Fb Fc (LF j)) (n := j) (fun z => h25 (of_decide_eq_true z))] at hl
          exact ih (j + 1) (by omega) (by first | assumption | omega | exact rfl) ls H locs (lv_sub hl [1, 2, 0] rfl) hM
        · have h25 := bD_n.mp h25
          refine lv_iload_n hx hb dVR_bitsOfTest_28 rfl (lv_at hl 1 rfl) ?_
          refine lv_iconst (v := nI 1) hx hb dVR_bitsOfTest_29 (by decide) ?_
          refine lv_iload_n hx hb dVR_bitsOfTest_30 rfl (lv_at hl 2 rfl) ?_
          refine lv_ishl hx hb dVR_bitsOfTest_31 ?_
          refine lv_ior hx hb dVR_bitsOfTest_32 ?_
          refine topi_eq (y := bN (fun j => hldR k Fb Fc (LF j)) (j + 1)) ((bN_t (f := fun j => hldR k Fb Fc (LF j)) (decide_eq_true h25)).symm) ?_
          refine lv_istore_n (lv' := [(1, .int (bN (fun j => hldR k Fb Fc (LF j)) (j + 1))), (0, .ref xa), (2, .int (nI j))]) hx hb dVR_bitsOfTest_33 rfl hl (by decide) rfl (fun ls hl => ?_)
          refine lv_iinc (v := nI (j + 1)) (lv' := [(2, .int (nI (j + 1))), (1, .int (bN (fun j => hldR k Fb Fc (LF j)) (j + 1))), (0, .ref xa)]) (k := 2) hx hb dVR_bitsOfTest_34 hl rfl (ii1 j) (by decide) rfl (fun ls hl => ?_)
          refine lv_goto (tgt := 4) hx hb dVR_bitsOfTest_37 (by decide) ?_
          try rw [← bN_f (f := fun j => hldR k Fb Fc (LF j)) (n := j) (fun z => h25 (of_decide_eq_true z))] at hl
          exact ih (j + 1) (by omega) (by first | assumption | omega | exact rfl) ls H locs (lv_sub hl [2, 1, 0] rfl) hM
  refine lv_iconst (v := nI 0) hx hb dVR_bitsOfTest_0 (by decide) ?_
  refine lv_istore_n (lv' := [(1, .int (nI 0)), (0, .ref xa)]) hx hb dVR_bitsOfTest_1 rfl hl (by decide) rfl (fun ls hl => ?_)
  refine lv_iconst (v := nI 0) hx hb dVR_bitsOfTest_2 (by decide) ?_
  refine lv_istore_n (lv' := [(2, .int (nI 0)), (1, .int (nI 0)), (0, .ref xa)]) hx hb dVR_bitsOfTest_3 rfl hl (by decide) rfl (fun ls hl => ?_)
  exact cut4 _ 0 (Nat.lt_succ_self _) (by first | assumption | omega | exact rfl) ls H locs (lv_sub hl [2, 1, 0] rfl) hM
end
section
theorem mtC_congr {T T' : Nat → Option (Option Int32)} {al : Int32} : ∀ (n i : Nat) (fo : Int32) (ch te : Nat) (cb : Int32), (∀ k, i ≤ k → k < i + n → T k = T' k) → mtC T al n i fo ch te cb = mtC T' al n i fo ch te cb := by
  intro n
  induction n with
  | zero => intros; rfl
  | succ n ih =>
    intro i fo ch te cb h
    rw [mtC, mtC, h i (Nat.le_refl _) (by omega)]
    split
    · rfl
    · rw [ih (i + 1) _ _ _ _ (fun k h1 h2 => h k (by omega) (by omega))]
    · rw [ih (i + 1) _ _ _ _ (fun k h1 h2 => h k (by omega) (by omega))]
theorem tok_or {B : Nat → Nat} {LF : Nat → Nat → Int64} {cnt a z : Nat} (h : z - a = 2 ∧ B a = 124 ∧ B (a + 1) = 124) : tokC B LF cnt a z = some none := if_pos h
theorem tok_ne {B : Nat → Nat} {LF : Nat → Nat → Int64} {cnt a z : Nat} (h : ¬ (z - a = 2 ∧ B a = 124 ∧ B (a + 1) = 124)) : ¬ tokC B LF cnt a z = some none := by
  unfold tokC
  rw [if_neg h]
  cases tstP B a z with
  | none => intro z; cases z
  | some q => intro z; cases z
theorem tok_bad {B : Nat → Nat} {LF : Nat → Nat → Int64} {cnt a z : Nat} (h : ¬ (z - a = 2 ∧ B a = 124 ∧ B (a + 1) = 124)) (h2 : tstP B a z = none) : tokC B LF cnt a z = none := by
  unfold tokC
  rw [if_neg h, h2]
  rfl
theorem tok_t {B : Nat → Nat} {LF : Nat → Nat → Int64} {cnt a z : Nat} {q : Nat × kVer} (h : ¬ (z - a = 2 ∧ B a = 124 ∧ B (a + 1) = 124)) (h2 : tstP B a z = some q) : tokC B LF cnt a z = some (some (bN (fun k => hldV q (LF k)) cnt)) := by
  unfold tokC
  rw [if_neg h, h2]
  rfl
/-- what RangeTest.readFrom leaves, as a test -/
theorem rtc {B : Nat → Nat} {a z k1 : Nat} {F1 F2 : Nat → Int64} {r : Int32} (hks : k1 = (sgP B a z).1)
    (h : (k1 = 0 ∧ r = bI (decide ((sgP B a z).2 = z))) ∨ (¬ k1 = 0 ∧ vVer B (sgP B a z).2 z = none ∧ r = nI 0) ∨ (∃ v, ¬ k1 = 0 ∧ vVer B (sgP B a z).2 z = some v ∧ r = nI 1 ∧ (∀ k, k < 7 → F1 k = rowOf v k) ∧ ∀ k, k < 7 → F2 k = n3F (fun _ => 0) (ceT k1 v.1 v.2.1 v.2.2.1) k)) :
    (tstP B a z = none ∧ r = nI 0) ∨ (∃ q, tstP B a z = some q ∧ r = nI 1 ∧ ∀ F, hldR k1 F1 F2 F = hldV q F) := by
  unfold tstP
  rcases h with ⟨h0, hr⟩ | ⟨h0, hv, hr⟩ | ⟨v, h0, hv, hr, hF1, hF2⟩
  · rw [if_pos (hks ▸ h0)]
    by_cases hz : (sgP B a z).2 = z
    · rw [if_pos hz]
      refine Or.inr ⟨_, rfl, hr.trans (bI_t hz).symm, fun F => ?_⟩
      rw [h0, hldR_0]
      exact (hldR_0 _ _ _).symm
    · rw [if_neg hz]
      exact Or.inl ⟨rfl, hr.trans (bI_f hz).symm⟩
  · rw [if_neg (hks ▸ h0), hv]
    exact Or.inl ⟨rfl, hr⟩
  · rw [if_neg (hks ▸ h0), hv]
    refine Or.inr ⟨(k1, v), by rw [hks]; rfl, hr, fun F => ?_⟩
    exact hldR_congr hF1 hF2
set_option maxHeartbeats 800000 in
set_option maxRecDepth 100000 in
theorem mVR_bitsInRangeOfTape (l : Launch) (g : kG) (μ : km_M) {xa ta la cd te cnt : Nat} (hxa : μ xa = some (.inr (3, [.ref ta, .ref la, .ref cd, .ref te, .int (nI cnt)]))) (hcnt : cnt ≤ 12) {ba sa oa ln ai zi : Nat} (ht : μ ta = some (.inr (1, [.ref ba, .ref sa, .ref oa, .int (nI ln), .int (nI ai), .int (nI zi)]))) {B : Nat → Nat} (hB : ∀ k, B k < 256) (hb0 : μ ba = some (.inl (g.2.2.1 0, 400, .inl (fun j => sb (B j))))) {S E : Nat → Nat} (hs0 : μ sa = some (.inl (g.2.2.1 1, 200, .inl (fun j => nI (S j))))) (ho0 : μ oa = some (.inl (g.2.2.1 1, 200, .inl (fun j => nI (E j))))) (hso : sa ≠ oa) (hln : ln ≤ 400) {V : Nat → Option Nat} {lv lr lp : Nat → Nat} {LF : Nat → Nat → Int64} (hla : μ la = some (.inl (g.2.2.1 4, 12, .inr (.inr (.inr (.inr V)))))) (hV : ∀ k, k < 12 → V k = some (lv k)) (hL : ∀ k, k < 12 → μ (lv k) = some (.inr (2, [.ref (lr k), .int (nI (lp k))])) ∧ μ (lr k) = some (.inl (g.2.2.1 2, 7, .inr (.inl (LF k))))) {bo co k : Nat} (hte : μ te = some (.inr (0, [.ref bo, .ref co, .ref (g.2.2.2.1 k)]))) (hk8 : k < 8) {br bp : Nat} {Fb : Nat → Int64} (hbo : μ bo = some (.inr (2, [.ref br, .int (nI bp)]))) (hbr : μ br = some (.inl (g.2.2.1 2, 7, .inr (.inl Fb)))) {er ep : Nat} {Fc : Nat → Int64} (hco : μ co = some (.inr (2, [.ref er, .int (nI ep)]))) (her : μ er = some (.inl (g.2.2.1 2, 7, .inr (.inl Fc)))) (nbc : bo ≠ co) (nrc : br ≠ er) (nlb : ∀ k, k < 12 → lv k ≠ bo) (nlc : ∀ k, k < 12 → lv k ≠ co) (nrb : ∀ k, k < 12 → lr k ≠ br) (nre : ∀ k, k < 12 → lr k ≠ er) : Met l yVR_bitsInRangeOfTape (Cond.code yVR_bitsInRangeOfTape cVR_bitsInRangeOfTape 7 (some .int) :: Wd) ({ frames := 5, cells := 0, slots := 0, locals := 114 } : Room) (kPre g μ [.ref xa]) (kQi g (fun (r : Int32) (μ1 : km_M) => r = mtC (fun k => tokC B LF cnt ((spw B ln).2.1 k) ((spw B ln).2.2 k)) (bN (fun _ => true) cnt) (spw B ln).1 0 (nI 0) 1 0 (bN (fun _ => true) cnt) ∧ ∃ (S1 E1 : Nat → Nat) (a1 z1 k1 b1 c1 : Nat) (F1 F2 : Nat → Int64), k1 < 8 ∧ μ1 = km_up (km_up (km_up (km_up (km_up (km_up (km_up (km_up μ sa (.inl (g.2.2.1 1, 200, .inl (fun j => nI (S1 j))))) oa (.inl (g.2.2.1 1, 200, .inl (fun j => nI (E1 j))))) ta (.inr (1, [.ref ba, .ref sa, .ref oa, .int (nI ln), .int (nI a1), .int (nI z1)]))) te (.inr (0, [.ref bo, .ref co, .ref (g.2.2.2.1 k1)]))) br (.inl (g.2.2.1 2, 7, .inr (.inl F1)))) bo (.inr (2, [.ref br, .int (nI b1)]))) er (.inl (g.2.2.1 2, 7, .inr (.inl F2)))) co (.inr (2, [.ref er, .int (nI c1)])))) 0 0 (kF g) := by
  refine k_met (by decide) (Nat.le_of_ble_eq_true rfl) ?_
  intro p e s m below meth c hx hb hr hlocks hml hown hnm hW ls hl H locs hM
  have hl : lv_has ls 7 [(0, .ref xa)] := hl
  have cut24 : ∀ (n : Nat), ∀ (w : Nat) (S1 : Nat → Nat) (E1 : Nat → Nat) (i : Nat) (fo : Int32) (ch : Nat) (tt : Nat) (cb : Int32) (a1 : Nat) (z1 : Nat) (k1 : Nat) (F1 : Nat → Int64) (b1 : Nat) (F2 : Nat → Int64) (c1 : Nat), w - i < n → 2 * w ≤ ln + 1 → (∀ k, k < w → S1 k < E1 k ∧ E1 k ≤ ln) → i ≤ w → (1 ≤ ch ∧ ch ≤ 4) → tt ≤ 4 → k1 < 8 → (mtC (fun k => tokC B LF cnt ((spw B ln).2.1 k) ((spw B ln).2.2 k)) (bN (fun _ => true) cnt) (spw B ln).1 0 (nI 0) 1 0 (bN (fun _ => true) cnt) = mtC (fun k => tokC B LF cnt (S1 k) (E1 k)) (bN (fun _ => true) cnt) (w - i) i fo ch tt cb) → ∀ (ls : Array Slot) (H : Heap) (locs : List Loc), lv_has ls 7 [(0, .ref xa), (1, .int (nI w)), (2, .int fo), (3, .int (nI ch)), (4, .int (nI tt)), (5, .int cb), (6, .int (nI i))] → kS g (km_up (km_up (km_up (km_up (km_up (km_up (km_up (km_up μ sa (.inl (g.2.2.1 1, 200, .inl (fun j => nI (S1 j))))) oa (.inl (g.2.2.1 1, 200, .inl (fun j => nI (E1 j))))) ta (.inr (1, [.ref ba, .ref sa, .ref oa, .int (nI ln), .int (nI a1), .int (nI z1)]))) te (.inr (0, [.ref bo, .ref co, .ref (g.2.2.2.1 k1)]))) br (.inl (g.2.2.1 2, 7, .inr (.inl F1)))) bo (.inr (2, [.ref br, .int (nI b1)]))) er (.inl (g.2.2.1 2, 7, .inr (.inl F2)))) co (.inr (2, [.ref er, .int (nI c1)]))) s H locs → W p l e ({ frames := 5, cells := 0, slots := 0, locals := 114 } : Room) s m [.ref xa].toArray below meth c H locs 0 0 (MQ below (kQi g (fun (r : Int32) (μ1 : km_M) => r = mtC (fun k => tokC B LF cnt ((spw B ln).2.1 k) ((spw B ln).2.2 k)) (bN (fun _ => true) cnt) (spw B ln).1 0 (nI 0) 1 0 (bN (fun _ => true) cnt) ∧ ∃ (S1 E1 : Nat → Nat) (a1 z1 k1 b1 c1 : Nat) (F1 F2 : Nat → Int64), k1 < 8 ∧ μ1 = km_up (km_up (km_up (km_up (km_up (km_up (km_up (km_up μ sa (.inl (g.2.2.1 1, 200, .inl (fun j => nI (S1 j))))) oa (.inl (g.2.2.1 1, 200, .inl (fun j => nI (E1 j))))) ta (.inr (1, [.ref ba, .ref sa, .ref oa, .int (nI ln), .int (nI a1), .int (nI z1)]))) te (.inr (0, [.ref bo, .ref co, .ref (g.2.2.2.1 k1)]))) br (.inl (g.2.2.1 2, 7, .inr (.inl F1)))) bo (.inr (2, [.ref br, .int (nI b1)]))) er (.inl (g.2.2.1 2, 7, .inr (.inl F2)))) co (.inr (2, [.ref er, .int (nI c1)])))) [.ref xa].toArray s 0 0 (kF g)) (F0 m 24 ls []) := by
    intro n
    induction n with
    | zero => intro w S1 E1 i fo ch tt cb a1 z1 k1 F1 b1 F2 c1 hlt; exact absurd hlt (Nat.not_lt_zero _)
    | succ n ih =>
      intro w S1 E1 i fo ch tt cb a1 z1 k1 F1 b1 F2 c1 hlt hw2 hok hi hch htt hk1 he ls H locs hl hM
      refine lv_iload hx hb dVR_bitsInRangeOfTape_24 (lv_at hl 6 rfl) ?_
      refine lv_iload_n hx hb dVR_bitsInRangeOfTape_26 rfl (lv_at hl 1 rfl) ?_
      refine lv_icmp_ge (tgt := 123) hx hb dVR_bitsInRangeOfTape_27 (by decide) (fun h27 => ?_) (fun h27 => ?_)
      · have h27 := (nJ_ge_t (a := i) (b := w) (by omega) (by omega)).mp h27
        have hf1 : w - i = 0 := by omega
        rw [hf1] at he
        refine lv_iload hx hb dVR_bitsInRangeOfTape_123 (lv_at hl 4 rfl) ?_
        refine lv_if_ne (tgt := 133) hx hb dVR_bitsInRangeOfTape_125 (by decide) (fun h125 => ?_) (fun h125 => ?_)
        · have h125 := (nJ_ne_t (a := tt) (b := 0) (by omega) (by omega)).mp h125
          refine lv_iload_n hx hb dVR_bitsInRangeOfTape_133 rfl (lv_at hl 2 rfl) ?_
          refine lv_iload hx hb dVR_bitsInRangeOfTape_134 (lv_at hl 5 rfl) ?_
          refine lv_ior hx hb dVR_bitsInRangeOfTape_136 ?_
          refine topi_eq (y := fo ||| cb) rfl ?_
          exact kr_i hx hb hr hlocks hM dVR_bitsInRangeOfTape_137 (⟨by first | exact (he.trans (mt_0.trans (if_neg h125))).symm | exact (he.trans (mt_0.trans (if_pos h125))).symm, ⟨_, _, _, _, _, _, _, _, _, hk1, rfl⟩⟩)
        · have h125 := (nJ_ne_f (a := tt) (b := 0) (by omega) (by omega)).mp h125
          refine lv_bipush (v := (-4)) hx hb dVR_bitsInRangeOfTape_128 (by decide) ?_
          refine lv_goto (tgt := 137) hx hb dVR_bitsInRangeOfTape_130 (by decide) ?_
          exact kr_i hx hb hr hlocks hM dVR_bitsInRangeOfTape_137 (⟨by first | exact (he.trans (mt_0.trans (if_neg h125))).symm | exact (he.trans (mt_0.trans (if_pos h125))).symm, ⟨_, _, _, _, _, _, _, _, _, hk1, rfl⟩⟩)
      · have h27 := (nJ_ge_f (a := i) (b := w) (by omega) (by omega)).mp h27
        have hf1 : w - i = (w - (i + 1)) + 1 := by omega
        rw [hf1] at he
        refine lv_aload_n hx hb dVR_bitsInRangeOfTape_30 rfl (lv_at hl 0 rfl) ?_
        refine k_get (own := RVR) (ref := RVR) (C := RVR) (T := TVR) (N := 5) (ci := 3) (v := .ref ta) hx hb hW inVR hown hM ((km_n (km_apC hxa hco (by decide))).trans ((km_n (km_apB hxa her)).trans ((km_n (km_apC hxa hbo (by decide))).trans ((km_n (km_apB hxa hbr)).trans ((km_n (km_apC hxa hte (by decide))).trans ((km_n (km_apC hxa ht (by decide))).trans ((km_n (km_apB hxa ho0)).trans ((km_n (km_apB hxa hs0)).trans hxa)))))))) rfl 0 (by decide) (hW _ w_94) (fun _ h => h) rfl dVR_bitsInRangeOfTape_31 ?_
        refine lv_iload hx hb dVR_bitsInRangeOfTape_34 (lv_at hl 6 rfl) ?_
        refine kc_v (va_runVN (C := RTP) (As := [.int (nI i)]) (b := ta) (rest := []) (Ts := Wd) ⟨hx, hb, hml, hown, hW⟩ (mTP_enterWord l g (km_up (km_up (km_up (km_up (km_up (km_up (km_up (km_up μ sa (.inl (g.2.2.1 1, 200, .inl (fun j => nI (S1 j))))) oa (.inl (g.2.2.1 1, 200, .inl (fun j => nI (E1 j))))) ta (.inr (1, [.ref ba, .ref sa, .ref oa, .int (nI ln), .int (nI a1), .int (nI z1)]))) te (.inr (0, [.ref bo, .ref co, .ref (g.2.2.2.1 k1)]))) br (.inl (g.2.2.1 2, 7, .inr (.inl F1)))) bo (.inr (2, [.ref br, .int (nI b1)]))) er (.inl (g.2.2.1 2, 7, .inr (.inl F2)))) co (.inr (2, [.ref er, .int (nI c1)]))) ((km_n (km_apC ht hco (by decide))).trans ((km_n (km_apB ht her)).trans ((km_n (km_apC ht hbo (by decide))).trans ((km_n (km_apB ht hbr)).trans ((km_n (km_apC ht hte (by decide))).trans (km_s _ _ _)))))) ((km_n (km_apA hs0 hco)).trans ((km_n (km_apN hs0 her (by decide))).trans ((km_n (km_apA hs0 hbo)).trans ((km_n (km_apN hs0 hbr (by decide))).trans ((km_n (km_apA hs0 hte)).trans ((km_n (km_apA hs0 ht)).trans ((km_n hso).trans (km_s _ _ _)))))))) ((km_n (km_apA ho0 hco)).trans ((km_n (km_apN ho0 her (by decide))).trans ((km_n (km_apA ho0 hbo)).trans ((km_n (km_apN ho0 hbr (by decide))).trans ((km_n (km_apA ho0 hte)).trans ((km_n (km_apA ho0 ht)).trans (km_s _ _ _))))))) (k := i) (by omega)) ⟨(va_cnB 1 hW (k_gC w_141) rfl rfl rfl (hM.2.1.2.1 _ n_138) (hW _ w_2) (by decide +kernel) ⟨Nat.le_of_ble_eq_true rfl, Nat.le_of_ble_eq_true rfl⟩), hW _ w_140, hW _ p_4⟩ (k_preV (q := (RTP, TTP, 6)) hM ((km_n (km_apC ht hco (by decide))).trans ((km_n (km_apB ht her)).trans ((km_n (km_apC ht hbo (by decide))).trans ((km_n (km_apB ht hbr)).trans ((km_n (km_apC ht hte (by decide))).trans (km_s _ _ _)))))) rfl) rfl rfl hl.1 rfl (lv_room (Nat.le_of_ble_eq_true rfl)) dVR_bitsInRangeOfTape_36 ⟨Nat.zero_le _, Nat.zero_le _⟩) hM (fun μ1 H locs hp hM => ?_)
        rw [hp] at hM
        have hse := hok i (by omega)
        have hM : kS g (km_up (km_up (km_up (km_up (km_up (km_up (km_up (km_up (km_up μ sa (.inl (g.2.2.1 1, 200, .inl (fun j => nI (S1 j))))) oa (.inl (g.2.2.1 1, 200, .inl (fun j => nI (E1 j))))) ta (.inr (1, [.ref ba, .ref sa, .ref oa, .int (nI ln), .int (nI a1), .int (nI z1)]))) te (.inr (0, [.ref bo, .ref co, .ref (g.2.2.2.1 k1)]))) br (.inl (g.2.2.1 2, 7, .inr (.inl F1)))) bo (.inr (2, [.ref br, .int (nI b1)]))) er (.inl (g.2.2.1 2, 7, .inr (.inl F2)))) co (.inr (2, [.ref er, .int (nI c1)]))) ta (.inr (1, [.ref ba, .ref sa, .ref oa, .int (nI ln), .int (nI (S1 i)), .int (nI (E1 i))]))) s H locs := hM
        have hM : kS g (km_up (km_up (km_up (km_up (km_up (km_up (km_up (km_up μ sa (.inl (g.2.2.1 1, 200, .inl (fun j => nI (S1 j))))) oa (.inl (g.2.2.1 1, 200, .inl (fun j => nI (E1 j))))) ta (.inr (1, [.ref ba, .ref sa, .ref oa, .int (nI ln), .int (nI (S1 i)), .int (nI (E1 i))]))) te (.inr (0, [.ref bo, .ref co, .ref (g.2.2.2.1 k1)]))) br (.inl (g.2.2.1 2, 7, .inr (.inl F1)))) bo (.inr (2, [.ref br, .int (nI b1)]))) er (.inl (g.2.2.1 2, 7, .inr (.inl F2)))) co (.inr (2, [.ref er, .int (nI c1)]))) s H locs := kS_eq (km_u6 _ _ _ _ _ _ _ _ (km_apC ht hte (by decide)) (km_apB ht hbr) (km_apC ht hbo (by decide)) (km_apB ht her) (km_apC ht hco (by decide))) hM
        refine lv_aload_n hx hb dVR_bitsInRangeOfTape_39 rfl (lv_at hl 0 rfl) ?_
        refine k_get (own := RVR) (ref := RVR) (C := RVR) (T := TVR) (N := 5) (ci := 3) (v := .ref ta) hx hb hW inVR hown hM ((km_n (km_apC hxa hco (by decide))).trans ((km_n (km_apB hxa her)).trans ((km_n (km_apC hxa hbo (by decide))).trans ((km_n (km_apB hxa hbr)).trans ((km_n (km_apC hxa hte (by decide))).trans ((km_n (km_apC hxa ht (by decide))).trans ((km_n (km_apB hxa ho0)).trans ((km_n (km_apB hxa hs0)).trans hxa)))))))) rfl 0 (by decide) (hW _ w_94) (fun _ h => h) rfl dVR_bitsInRangeOfTape_40 ?_
        refine kc_i (va_runVN (C := RTP) (As := []) (b := ta) (rest := []) (Ts := Wd) ⟨hx, hb, hml, hown, hW⟩ (mTP_isAtOrWord l g (km_up (km_up (km_up (km_up (km_up (km_up (km_up (km_up μ sa (.inl (g.2.2.1 1, 200, .inl (fun j => nI (S1 j))))) oa (.inl (g.2.2.1 1, 200, .inl (fun j => nI (E1 j))))) ta (.inr (1, [.ref ba, .ref sa, .ref oa, .int (nI ln), .int (nI (S1 i)), .int (nI (E1 i))]))) te (.inr (0, [.ref bo, .ref co, .ref (g.2.2.2.1 k1)]))) br (.inl (g.2.2.1 2, 7, .inr (.inl F1)))) bo (.inr (2, [.ref br, .int (nI b1)]))) er (.inl (g.2.2.1 2, 7, .inr (.inl F2)))) co (.inr (2, [.ref er, .int (nI c1)]))) ((km_n (km_apC ht hco (by decide))).trans ((km_n (km_apB ht her)).trans ((km_n (km_apC ht hbo (by decide))).trans ((km_n (km_apB ht hbr)).trans ((km_n (km_apC ht hte (by decide))).trans (km_s _ _ _)))))) hB ((km_n (km_apA hb0 hco)).trans ((km_n (km_apN hb0 her (by decide))).trans ((km_n (km_apA hb0 hbo)).trans ((km_n (km_apN hb0 hbr (by decide))).trans ((km_n (km_apA hb0 hte)).trans ((km_n (km_apA hb0 ht)).trans ((km_n (km_apN hb0 ho0 (by decide))).trans ((km_n (km_apN hb0 hs0 (by decide))).trans hb0)))))))) (by omega) (by omega)) ⟨(va_cnB 0 hW (k_gC w_229) rfl rfl rfl (hM.2.1.2.1 _ n_226) (hW _ w_2) (by decide +kernel) ⟨Nat.le_of_ble_eq_true rfl, Nat.le_of_ble_eq_true rfl⟩), hW _ w_228, hW _ p_19⟩ (k_preV (q := (RTP, TTP, 6)) hM ((km_n (km_apC ht hco (by decide))).trans ((km_n (km_apB ht her)).trans ((km_n (km_apC ht hbo (by decide))).trans ((km_n (km_apB ht hbr)).trans ((km_n (km_apC ht hte (by decide))).trans (km_s _ _ _)))))) rfl) rfl rfl hl.1 rfl (lv_room (Nat.le_of_ble_eq_true rfl)) dVR_bitsInRangeOfTape_43 ⟨Nat.zero_le _, Nat.zero_le _⟩) hM (fun r μ1 H locs hp hM => ?_)
        obtain ⟨rfl, hmu⟩ := hp
        rw [hmu] at hM
        refine lv_if_eq (tgt := 82) hx hb dVR_bitsInRangeOfTape_46 (by decide) (fun h46 => ?_) (fun h46 => ?_)
        · have h46 := bD_0.mp h46
          refine lv_iload hx hb dVR_bitsInRangeOfTape_82 (lv_at hl 4 rfl) ?_
          refine lv_iconst (v := nI 4) hx hb dVR_bitsInRangeOfTape_84 (by decide) ?_
          refine lv_icmp_eq (tgt := 102) hx hb dVR_bitsInRangeOfTape_85 (by decide) (fun h85 => ?_) (fun h85 => ?_)
          · have h85 := (nJ_eq_t (a := tt) (b := 4) (by omega) (by omega)).mp h85
            refine lv_bipush (v := (-4)) hx hb dVR_bitsInRangeOfTape_102 (by decide) ?_
            exact kr_i hx hb hr hlocks hM dVR_bitsInRangeOfTape_104 (⟨by first | exact (he.trans (mt_n (tok_bad h46 hq))).symm | exact (he.trans (mt_t4 (tok_ne h46) h85)).symm, ⟨_, _, _, _, _, _, _, _, _, by first | exact hk2 | exact hk1, rfl⟩⟩)
          · have h85 := (nJ_eq_f (a := tt) (b := 4) (by omega) (by omega)).mp h85
            refine lv_aload_n hx hb dVR_bitsInRangeOfTape_88 rfl (lv_at hl 0 rfl) ?_
            refine k_get (own := RVR) (ref := RVR) (C := RVR) (T := TVR) (N := 5) (ci := 3) (v := .ref te) hx hb hW inVR hown hM ((km_n (km_apC hxa hco (by decide))).trans ((km_n (km_apB hxa her)).trans ((km_n (km_apC hxa hbo (by decide))).trans ((km_n (km_apB hxa hbr)).trans ((km_n (km_apC hxa hte (by decide))).trans ((km_n (km_apC hxa ht (by decide))).trans ((km_n (km_apB hxa ho0)).trans ((km_n (km_apB hxa hs0)).trans hxa)))))))) rfl 3 (by decide) (hW _ w_97) (fun _ h => h) rfl dVR_bitsInRangeOfTape_89 ?_
            refine lv_aload_n hx hb dVR_bitsInRangeOfTape_92 rfl (lv_at hl 0 rfl) ?_
            refine k_get (own := RVR) (ref := RVR) (C := RVR) (T := TVR) (N := 5) (ci := 3) (v := .ref ta) hx hb hW inVR hown hM ((km_n (km_apC hxa hco (by decide))).trans ((km_n (km_apB hxa her)).trans ((km_n (km_apC hxa hbo (by decide))).trans ((km_n (km_apB hxa hbr)).trans ((km_n (km_apC hxa hte (by decide))).trans ((km_n (km_apC hxa ht (by decide))).trans ((km_n (km_apB hxa ho0)).trans ((km_n (km_apB hxa hs0)).trans hxa)))))))) rfl 0 (by decide) (hW _ w_94) (fun _ h => h) rfl dVR_bitsInRangeOfTape_93 ?_
            refine kc_i (va_runVN (C := RRT) (As := [.ref ta]) (b := te) (rest := []) (Ts := Wd) ⟨hx, hb, hml, hown, hW⟩ (mRT_readFrom l g (km_up (km_up (km_up (km_up (km_up (km_up (km_up (km_up μ sa (.inl (g.2.2.1 1, 200, .inl (fun j => nI (S1 j))))) oa (.inl (g.2.2.1 1, 200, .inl (fun j => nI (E1 j))))) ta (.inr (1, [.ref ba, .ref sa, .ref oa, .int (nI ln), .int (nI (S1 i)), .int (nI (E1 i))]))) te (.inr (0, [.ref bo, .ref co, .ref (g.2.2.2.1 k1)]))) br (.inl (g.2.2.1 2, 7, .inr (.inl F1)))) bo (.inr (2, [.ref br, .int (nI b1)]))) er (.inl (g.2.2.1 2, 7, .inr (.inl F2)))) co (.inr (2, [.ref er, .int (nI c1)]))) ((km_n (km_apC hte hco (by decide))).trans ((km_n (km_apB hte her)).trans ((km_n (km_apC hte hbo (by decide))).trans ((km_n (km_apB hte hbr)).trans (km_s _ _ _))))) hk1 ((km_n nbc).trans ((km_n (km_apB hbo her)).trans (km_s _ _ _))) ((km_n (km_apA hbr hco)).trans ((km_n nrc).trans ((km_n (km_apA hbr hbo)).trans (km_s _ _ _)))) (km_s _ _ _) ((km_n (km_apA her hco)).trans (km_s _ _ _)) nbc nrc ((km_n (km_apC ht hco (by decide))).trans ((km_n (km_apB ht her)).trans ((km_n (km_apC ht hbo (by decide))).trans ((km_n (km_apB ht hbr)).trans ((km_n (km_apC ht hte (by decide))).trans (km_s _ _ _)))))) hB ((km_n (km_apA hb0 hco)).trans ((km_n (km_apN hb0 her (by decide))).trans ((km_n (km_apA hb0 hbo)).trans ((km_n (km_apN hb0 hbr (by decide))).trans ((km_n (km_apA hb0 hte)).trans ((km_n (km_apA hb0 ht)).trans ((km_n (km_apN hb0 ho0 (by decide))).trans ((km_n (km_apN hb0 hs0 (by decide))).trans hb0)))))))) (by omega) (by omega)) ⟨(va_cnB 1 hW (k_gC w_233) rfl rfl rfl (hM.2.1.2.1 _ n_230) (hW _ w_4) (by decide +kernel) ⟨Nat.le_of_ble_eq_true rfl, Nat.le_of_ble_eq_true rfl⟩), hW _ w_232, hW _ p_20⟩ (k_preV (q := (RRT, TRT, 3)) hM ((km_n (km_apC hte hco (by decide))).trans ((km_n (km_apB hte her)).trans ((km_n (km_apC hte hbo (by decide))).trans ((km_n (km_apB hte hbr)).trans (km_s _ _ _))))) rfl) rfl rfl hl.1 rfl (lv_room (Nat.le_of_ble_eq_true rfl)) dVR_bitsInRangeOfTape_96 ⟨Nat.zero_le _, Nat.zero_le _⟩) hM (fun r μ1 H locs hp hM => ?_)
            obtain ⟨k2, a9, b2, c2, F3, F4, hmu, hk2, hks, hcase⟩ := hp
            rw [hmu] at hM
            have hM : kS g (km_up (km_up (km_up (km_up (km_up (km_up (km_up (km_up (km_up (km_up (km_up (km_up (km_up (km_up μ sa (.inl (g.2.2.1 1, 200, .inl (fun j => nI (S1 j))))) oa (.inl (g.2.2.1 1, 200, .inl (fun j => nI (E1 j))))) ta (.inr (1, [.ref ba, .ref sa, .ref oa, .int (nI ln), .int (nI (S1 i)), .int (nI (E1 i))]))) te (.inr (0, [.ref bo, .ref co, .ref (g.2.2.2.1 k1)]))) br (.inl (g.2.2.1 2, 7, .inr (.inl F1)))) bo (.inr (2, [.ref br, .int (nI b1)]))) er (.inl (g.2.2.1 2, 7, .inr (.inl F2)))) co (.inr (2, [.ref er, .int (nI c1)]))) ta (.inr (1, [.ref ba, .ref sa, .ref oa, .int (nI ln), .int (nI a9), .int (nI (E1 i))]))) te (.inr (0, [.ref bo, .ref co, .ref (g.2.2.2.1 k2)]))) br (.inl (g.2.2.1 2, 7, .inr (.inl F3)))) bo (.inr (2, [.ref br, .int (nI b2)]))) er (.inl (g.2.2.1 2, 7, .inr (.inl F4)))) co (.inr (2, [.ref er, .int (nI c2)]))) s H locs := hM
            have hM : kS g (km_up (km_up (km_up (km_up (km_up (km_up (km_up (km_up (km_up (km_up (km_up (km_up (km_up μ sa (.inl (g.2.2.1 1, 200, .inl (fun j => nI (S1 j))))) oa (.inl (g.2.2.1 1, 200, .inl (fun j => nI (E1 j))))) ta (.inr (1, [.ref ba, .ref sa, .ref oa, .int (nI ln), .int (nI a9), .int (nI (E1 i))]))) te (.inr (0, [.ref bo, .ref co, .ref (g.2.2.2.1 k1)]))) br (.inl (g.2.2.1 2, 7, .inr (.inl F1)))) bo (.inr (2, [.ref br, .int (nI b1)]))) er (.inl (g.2.2.1 2, 7, .inr (.inl F2)))) co (.inr (2, [.ref er, .int (nI c1)]))) te (.inr (0, [.ref bo, .ref co, .ref (g.2.2.2.1 k2)]))) br (.inl (g.2.2.1 2, 7, .inr (.inl F3)))) bo (.inr (2, [.ref br, .int (nI b2)]))) er (.inl (g.2.2.1 2, 7, .inr (.inl F4)))) co (.inr (2, [.ref er, .int (nI c2)]))) s H locs := kS_eq (congrArg (fun z => km_up z co (.inr (2, [.ref er, .int (nI c2)]))) (congrArg (fun z => km_up z er (.inl (g.2.2.1 2, 7, .inr (.inl F4)))) (congrArg (fun z => km_up z bo (.inr (2, [.ref br, .int (nI b2)]))) (congrArg (fun z => km_up z br (.inl (g.2.2.1 2, 7, .inr (.inl F3)))) (congrArg (fun z => km_up z te (.inr (0, [.ref bo, .ref co, .ref (g.2.2.2.1 k2)]))) (km_u6 _ _ _ _ _ _ _ _ (km_apC ht hte (by decide)) (km_apB ht hbr) (km_apC ht hbo (by decide)) (km_apB ht her) (km_apC ht hco (by decide)))))))) hM
            have hM : kS g (km_up (km_up (km_up (km_up (km_up (km_up (km_up (km_up (km_up (km_up (km_up (km_up μ sa (.inl (g.2.2.1 1, 200, .inl (fun j => nI (S1 j))))) oa (.inl (g.2.2.1 1, 200, .inl (fun j => nI (E1 j))))) ta (.inr (1, [.ref ba, .ref sa, .ref oa, .int (nI ln), .int (nI a9), .int (nI (E1 i))]))) te (.inr (0, [.ref bo, .ref co, .ref (g.2.2.2.1 k2)]))) br (.inl (g.2.2.1 2, 7, .inr (.inl F1)))) bo (.inr (2, [.ref br, .int (nI b1)]))) er (.inl (g.2.2.1 2, 7, .inr (.inl F2)))) co (.inr (2, [.ref er, .int (nI c1)]))) br (.inl (g.2.2.1 2, 7, .inr (.inl F3)))) bo (.inr (2, [.ref br, .int (nI b2)]))) er (.inl (g.2.2.1 2, 7, .inr (.inl F4)))) co (.inr (2, [.ref er, .int (nI c2)]))) s H locs := kS_eq (congrArg (fun z => km_up z co (.inr (2, [.ref er, .int (nI c2)]))) (congrArg (fun z => km_up z er (.inl (g.2.2.1 2, 7, .inr (.inl F4)))) (congrArg (fun z => km_up z bo (.inr (2, [.ref br, .int (nI b2)]))) (congrArg (fun z => km_up z br (.inl (g.2.2.1 2, 7, .inr (.inl F3)))) (km_u5 _ _ _ _ _ _ _ (km_apB hte hbr) (km_apC hte hbo (by decide)) (km_apB hte her) (km_apC hte hco (by decide))))))) hM
            have hM : kS g (km_up (km_up (km_up (km_up (km_up (km_up (km_up (km_up (km_up (km_up (km_up μ sa (.inl (g.2.2.1 1, 200, .inl (fun j => nI (S1 j))))) oa (.inl (g.2.2.1 1, 200, .inl (fun j => nI (E1 j))))) ta (.inr (1, [.ref ba, .ref sa, .ref oa, .int (nI ln), .int (nI a9), .int (nI (E1 i))]))) te (.inr (0, [.ref bo, .ref co, .ref (g.2.2.2.1 k2)]))) br (.inl (g.2.2.1 2, 7, .inr (.inl F3)))) bo (.inr (2, [.ref br, .int (nI b1)]))) er (.inl (g.2.2.1 2, 7, .inr (.inl F2)))) co (.inr (2, [.ref er, .int (nI c1)]))) bo (.inr (2, [.ref br, .int (nI b2)]))) er (.inl (g.2.2.1 2, 7, .inr (.inl F4)))) co (.inr (2, [.ref er, .int (nI c2)]))) s H locs := kS_eq (congrArg (fun z => km_up z co (.inr (2, [.ref er, .int (nI c2)]))) (congrArg (fun z => km_up z er (.inl (g.2.2.1 2, 7, .inr (.inl F4)))) (congrArg (fun z => km_up z bo (.inr (2, [.ref br, .int (nI b2)]))) (km_u4 _ _ _ _ _ _ (km_apA hbr hbo) nrc (km_apA hbr hco))))) hM
            have hM : kS g (km_up (km_up (km_up (km_up (km_up (km_up (km_up (km_up (km_up (km_up μ sa (.inl (g.2.2.1 1, 200, .inl (fun j => nI (S1 j))))) oa (.inl (g.2.2.1 1, 200, .inl (fun j => nI (E1 j))))) ta (.inr (1, [.ref ba, .ref sa, .ref oa, .int (nI ln), .int (nI a9), .int (nI (E1 i))]))) te (.inr (0, [.ref bo, .ref co, .ref (g.2.2.2.1 k2)]))) br (.inl (g.2.2.1 2, 7, .inr (.inl F3)))) bo (.inr (2, [.ref br, .int (nI b2)]))) er (.inl (g.2.2.1 2, 7, .inr (.inl F2)))) co (.inr (2, [.ref er, .int (nI c1)]))) er (.inl (g.2.2.1 2, 7, .inr (.inl F4)))) co (.inr (2, [.ref er, .int (nI c2)]))) s H locs := kS_eq (congrArg (fun z => km_up z co (.inr (2, [.ref er, .int (nI c2)]))) (congrArg (fun z => km_up z er (.inl (g.2.2.1 2, 7, .inr (.inl F4)))) (km_u3 _ _ _ _ _ (km_apB hbo her) nbc))) hM
            have hM : kS g (km_up (km_up (km_up (km_up (km_up (km_up (km_up (km_up (km_up μ sa (.inl (g.2.2.1 1, 200, .inl (fun j => nI (S1 j))))) oa (.inl (g.2.2.1 1, 200, .inl (fun j => nI (E1 j))))) ta (.inr (1, [.ref ba, .ref sa, .ref oa, .int (nI ln), .int (nI a9), .int (nI (E1 i))]))) te (.inr (0, [.ref bo, .ref co, .ref (g.2.2.2.1 k2)]))) br (.inl (g.2.2.1 2, 7, .inr (.inl F3)))) bo (.inr (2, [.ref br, .int (nI b2)]))) er (.inl (g.2.2.1 2, 7, .inr (.inl F4)))) co (.inr (2, [.ref er, .int (nI c1)]))) co (.inr (2, [.ref er, .int (nI c2)]))) s H locs := kS_eq (congrArg (fun z => km_up z co (.inr (2, [.ref er, .int (nI c2)]))) (km_u2 _ _ _ _ (km_apA her hco))) hM
            have hM : kS g (km_up (km_up (km_up (km_up (km_up (km_up (km_up (km_up μ sa (.inl (g.2.2.1 1, 200, .inl (fun j => nI (S1 j))))) oa (.inl (g.2.2.1 1, 200, .inl (fun j => nI (E1 j))))) ta (.inr (1, [.ref ba, .ref sa, .ref oa, .int (nI ln), .int (nI a9), .int (nI (E1 i))]))) te (.inr (0, [.ref bo, .ref co, .ref (g.2.2.2.1 k2)]))) br (.inl (g.2.2.1 2, 7, .inr (.inl F3)))) bo (.inr (2, [.ref br, .int (nI b2)]))) er (.inl (g.2.2.1 2, 7, .inr (.inl F4)))) co (.inr (2, [.ref er, .int (nI c2)]))) s H locs := kS_eq (km_u1 _ _ _ _) hM
            rcases rtc hks hcase with ⟨hq, rfl⟩ | ⟨q, hq, rfl, hhld⟩
            · skip
              refine lv_if_ne (tgt := 105) hx hb dVR_bitsInRangeOfTape_99 (by decide) (fun h => absurd (by decide) h) (fun _ => ?_)
              refine lv_bipush (v := (-4)) hx hb dVR_bitsInRangeOfTape_102 (by decide) ?_
              exact kr_i hx hb hr hlocks hM dVR_bitsInRangeOfTape_104 (⟨by first | exact (he.trans (mt_n (tok_bad h46 hq))).symm | exact (he.trans (mt_t4 (tok_ne h46) h85)).symm, ⟨_, _, _, _, _, _, _, _, _, by first | exact hk2 | exact hk1, rfl⟩⟩)
            · skip
              refine lv_if_ne (tgt := 105) hx hb dVR_bitsInRangeOfTape_99 (by decide) (fun _ => ?_) (fun h => absurd h (by decide))
              refine lv_iinc (v := nI (tt + 1)) (lv' := [(4, .int (nI (tt + 1))), (0, .ref xa), (1, .int (nI w)), (2, .int fo), (3, .int (nI ch)), (5, .int cb), (6, .int (nI i))]) (k := 4) hx hb dVR_bitsInRangeOfTape_105 hl rfl (ii1 tt) (by decide) rfl (fun ls hl => ?_)
              refine lv_iload hx hb dVR_bitsInRangeOfTape_108 (lv_at hl 5 rfl) ?_
              refine lv_aload_n hx hb dVR_bitsInRangeOfTape_110 rfl (lv_at hl 1 rfl) ?_
              refine kc_i (va_runV (C := RVR) (As := []) (b := xa) (rest := [.int cb]) (Ts := Wd) ⟨hx, hb, hml, hown, hW⟩ (mVR_bitsOfTest l g (km_up (km_up (km_up (km_up (km_up (km_up (km_up (km_up μ sa (.inl (g.2.2.1 1, 200, .inl (fun j => nI (S1 j))))) oa (.inl (g.2.2.1 1, 200, .inl (fun j => nI (E1 j))))) ta (.inr (1, [.ref ba, .ref sa, .ref oa, .int (nI ln), .int (nI a9), .int (nI (E1 i))]))) te (.inr (0, [.ref bo, .ref co, .ref (g.2.2.2.1 k2)]))) br (.inl (g.2.2.1 2, 7, .inr (.inl F3)))) bo (.inr (2, [.ref br, .int (nI b2)]))) er (.inl (g.2.2.1 2, 7, .inr (.inl F4)))) co (.inr (2, [.ref er, .int (nI c2)]))) ((km_n (km_apC hxa hco (by decide))).trans ((km_n (km_apB hxa her)).trans ((km_n (km_apC hxa hbo (by decide))).trans ((km_n (km_apB hxa hbr)).trans ((km_n (km_apC hxa hte (by decide))).trans ((km_n (km_apC hxa ht (by decide))).trans ((km_n (km_apB hxa ho0)).trans ((km_n (km_apB hxa hs0)).trans hxa)))))))) hcnt ((km_n (km_apA hla hco)).trans ((km_n (km_apN hla her (by decide))).trans ((km_n (km_apA hla hbo)).trans ((km_n (km_apN hla hbr (by decide))).trans ((km_n (km_apA hla hte)).trans ((km_n (km_apA hla ht)).trans ((km_n (km_apN hla ho0 (by decide))).trans ((km_n (km_apN hla hs0 (by decide))).trans hla)))))))) hV (fun q hq9 => ⟨((km_n (nlc q hq9)).trans ((km_n (km_apB (hL q hq9).1 her)).trans ((km_n (nlb q hq9)).trans ((km_n (km_apB (hL q hq9).1 hbr)).trans ((km_n (km_apC (hL q hq9).1 hte (by decide))).trans ((km_n (km_apC (hL q hq9).1 ht (by decide))).trans ((km_n (km_apB (hL q hq9).1 ho0)).trans ((km_n (km_apB (hL q hq9).1 hs0)).trans (hL q hq9).1)))))))), ((km_n (km_apA (hL q hq9).2 hco)).trans ((km_n (nre q hq9)).trans ((km_n (km_apA (hL q hq9).2 hbo)).trans ((km_n (nrb q hq9)).trans ((km_n (km_apA (hL q hq9).2 hte)).trans ((km_n (km_apA (hL q hq9).2 ht)).trans ((km_n (km_apN (hL q hq9).2 ho0 (by decide))).trans ((km_n (km_apN (hL q hq9).2 hs0 (by decide))).trans (hL q hq9).2))))))))⟩) ((km_n (km_apC hte hco (by decide))).trans ((km_n (km_apB hte her)).trans ((km_n (km_apC hte hbo (by decide))).trans ((km_n (km_apB hte hbr)).trans (km_s _ _ _))))) hk2 ((km_n nbc).trans ((km_n (km_apB hbo her)).trans (km_s _ _ _))) ((km_n (km_apA hbr hco)).trans ((km_n nrc).trans ((km_n (km_apA hbr hbo)).trans (km_s _ _ _)))) (km_s _ _ _) ((km_n (km_apA her hco)).trans (km_s _ _ _))) (cwV 0 hW (k_gV w_263 w_265 p_23 w_1 w_266) rfl rfl rfl (by decide +kernel) ⟨Nat.le_of_ble_eq_true rfl, Nat.le_of_ble_eq_true rfl⟩) (k_preV (q := (RVR, TVR, 5)) hM ((km_n (km_apC hxa hco (by decide))).trans ((km_n (km_apB hxa her)).trans ((km_n (km_apC hxa hbo (by decide))).trans ((km_n (km_apB hxa hbr)).trans ((km_n (km_apC hxa hte (by decide))).trans ((km_n (km_apC hxa ht (by decide))).trans ((km_n (km_apB hxa ho0)).trans ((km_n (km_apB hxa hs0)).trans hxa)))))))) rfl) rfl rfl hl.1 rfl (lv_room (Nat.le_of_ble_eq_true rfl)) dVR_bitsInRangeOfTape_111 ⟨Nat.zero_le _, Nat.zero_le _⟩) hM (fun r μ1 H locs hp hM => ?_)
              obtain ⟨rfl, hmu⟩ := hp
              rw [hmu] at hM
              refine topi_eq (y := bN (fun j => hldV q (LF j)) cnt) (congrArg (fun f => bN f cnt) (funext fun j => hhld (LF j))) ?_
              refine lv_iand hx hb dVR_bitsInRangeOfTape_114 ?_
              refine topi_eq (y := cb &&& bN (fun j => hldV q (LF j)) cnt) rfl ?_
              refine lv_istore (lv' := [(5, .int (cb &&& bN (fun j => hldV q (LF j)) cnt)), (4, .int (nI (tt + 1))), (0, .ref xa), (1, .int (nI w)), (2, .int fo), (3, .int (nI ch)), (6, .int (nI i))]) hx hb dVR_bitsInRangeOfTape_115 hl (by decide) rfl (fun ls hl => ?_)
              refine lv_iinc (v := nI (i + 1)) (lv' := [(6, .int (nI (i + 1))), (5, .int (cb &&& bN (fun j => hldV q (LF j)) cnt)), (4, .int (nI (tt + 1))), (0, .ref xa), (1, .int (nI w)), (2, .int fo), (3, .int (nI ch))]) (k := 6) hx hb dVR_bitsInRangeOfTape_117 hl rfl (ii1 i) (by decide) rfl (fun ls hl => ?_)
              refine lv_goto (tgt := 24) hx hb dVR_bitsInRangeOfTape_120 (by decide) ?_
              exact ih _ _ _ _ _ _ _ _ _ _ _ _ _ _ _ (by omega) (by first | assumption | omega | exact rfl) (by exact hok) (by first | assumption | omega | exact rfl) (by omega) (by first | assumption | omega | exact rfl) (by first | exact hk2 | exact hk1) (by first | exact he.trans (mt_oT (tok_or h46) (by omega)) | exact he.trans (mt_tT (tok_t h46 hq) h85)) ls H locs (lv_sub hl [3, 4, 5, 6, 2, 1, 0] rfl) hM
        · have h46 := bD_n.mp h46
          refine lv_iload hx hb dVR_bitsInRangeOfTape_49 (lv_at hl 4 rfl) ?_
          refine lv_if_eq (tgt := 59) hx hb dVR_bitsInRangeOfTape_51 (by decide) (fun h51 => ?_) (fun h51 => ?_)
          · have h51 := (nJ_eq_t (a := tt) (b := 0) (by omega) (by omega)).mp h51
            refine lv_bipush (v := (-4)) hx hb dVR_bitsInRangeOfTape_59 (by decide) ?_
            exact kr_i hx hb hr hlocks hM dVR_bitsInRangeOfTape_61 (⟨(he.trans (mt_oF (tok_or h46) (by omega))).symm, ⟨_, _, _, _, _, _, _, _, _, hk1, rfl⟩⟩)
          · have h51 := (nJ_eq_f (a := tt) (b := 0) (by omega) (by omega)).mp h51
            refine lv_iload_n hx hb dVR_bitsInRangeOfTape_54 rfl (lv_at hl 3 rfl) ?_
            refine lv_iconst (v := nI 4) hx hb dVR_bitsInRangeOfTape_55 (by decide) ?_
            refine lv_icmp_ne (tgt := 62) hx hb dVR_bitsInRangeOfTape_56 (by decide) (fun h56 => ?_) (fun h56 => ?_)
            · have h56 := (nJ_ne_t (a := ch) (b := 4) (by omega) (by omega)).mp h56
              refine lv_iload_n hx hb dVR_bitsInRangeOfTape_62 rfl (lv_at hl 2 rfl) ?_
              refine lv_iload hx hb dVR_bitsInRangeOfTape_63 (lv_at hl 5 rfl) ?_
              refine lv_ior hx hb dVR_bitsInRangeOfTape_65 ?_
              refine topi_eq (y := fo ||| cb) rfl ?_
              refine lv_istore_n (lv' := [(2, .int (fo ||| cb)), (0, .ref xa), (1, .int (nI w)), (3, .int (nI ch)), (4, .int (nI tt)), (5, .int cb), (6, .int (nI i))]) hx hb dVR_bitsInRangeOfTape_66 rfl hl (by decide) rfl (fun ls hl => ?_)
              refine lv_iinc (v := nI (ch + 1)) (lv' := [(3, .int (nI (ch + 1))), (2, .int (fo ||| cb)), (0, .ref xa), (1, .int (nI w)), (4, .int (nI tt)), (5, .int cb), (6, .int (nI i))]) (k := 3) hx hb dVR_bitsInRangeOfTape_67 hl rfl (ii1 ch) (by decide) rfl (fun ls hl => ?_)
              refine lv_iconst (v := nI 0) hx hb dVR_bitsInRangeOfTape_70 (by decide) ?_
              refine lv_istore (lv' := [(4, .int (nI 0)), (3, .int (nI (ch + 1))), (2, .int (fo ||| cb)), (0, .ref xa), (1, .int (nI w)), (5, .int cb), (6, .int (nI i))]) hx hb dVR_bitsInRangeOfTape_71 hl (by decide) rfl (fun ls hl => ?_)
              refine lv_aload_n hx hb dVR_bitsInRangeOfTape_73 rfl (lv_at hl 3 rfl) ?_
              refine kc_i (va_runV (C := RVR) (As := []) (b := xa) (rest := []) (Ts := Wd) ⟨hx, hb, hml, hown, hW⟩ (mVR_allBits l g (km_up (km_up (km_up (km_up (km_up (km_up (km_up (km_up μ sa (.inl (g.2.2.1 1, 200, .inl (fun j => nI (S1 j))))) oa (.inl (g.2.2.1 1, 200, .inl (fun j => nI (E1 j))))) ta (.inr (1, [.ref ba, .ref sa, .ref oa, .int (nI ln), .int (nI (S1 i)), .int (nI (E1 i))]))) te (.inr (0, [.ref bo, .ref co, .ref (g.2.2.2.1 k1)]))) br (.inl (g.2.2.1 2, 7, .inr (.inl F1)))) bo (.inr (2, [.ref br, .int (nI b1)]))) er (.inl (g.2.2.1 2, 7, .inr (.inl F2)))) co (.inr (2, [.ref er, .int (nI c1)]))) ((km_n (km_apC hxa hco (by decide))).trans ((km_n (km_apB hxa her)).trans ((km_n (km_apC hxa hbo (by decide))).trans ((km_n (km_apB hxa hbr)).trans ((km_n (km_apC hxa hte (by decide))).trans ((km_n (km_apC hxa ht (by decide))).trans ((km_n (km_apB hxa ho0)).trans ((km_n (km_apB hxa hs0)).trans hxa)))))))) hcnt) (cwV 0 hW (k_gV w_222 w_224 p_18 w_1 w_225) rfl rfl rfl (by decide +kernel) ⟨Nat.le_of_ble_eq_true rfl, Nat.le_of_ble_eq_true rfl⟩) (k_preV (q := (RVR, TVR, 5)) hM ((km_n (km_apC hxa hco (by decide))).trans ((km_n (km_apB hxa her)).trans ((km_n (km_apC hxa hbo (by decide))).trans ((km_n (km_apB hxa hbr)).trans ((km_n (km_apC hxa hte (by decide))).trans ((km_n (km_apC hxa ht (by decide))).trans ((km_n (km_apB hxa ho0)).trans ((km_n (km_apB hxa hs0)).trans hxa)))))))) rfl) rfl rfl hl.1 rfl (lv_room (Nat.le_of_ble_eq_true rfl)) dVR_bitsInRangeOfTape_74 ⟨Nat.zero_le _, Nat.zero_le _⟩) hM (fun r μ1 H locs hp hM => ?_)
              obtain ⟨rfl, hmu⟩ := hp
              rw [hmu] at hM
              refine lv_istore (lv' := [(5, .int (bN (fun _ => true) cnt)), (4, .int (nI 0)), (3, .int (nI (ch + 1))), (2, .int (fo ||| cb)), (0, .ref xa), (1, .int (nI w)), (6, .int (nI i))]) hx hb dVR_bitsInRangeOfTape_77 hl (by decide) rfl (fun ls hl => ?_)
              refine lv_goto (tgt := 117) hx hb dVR_bitsInRangeOfTape_79 (by decide) ?_
              refine lv_iinc (v := nI (i + 1)) (lv' := [(6, .int (nI (i + 1))), (5, .int (bN (fun _ => true) cnt)), (4, .int (nI 0)), (3, .int (nI (ch + 1))), (2, .int (fo ||| cb)), (0, .ref xa), (1, .int (nI w))]) (k := 6) hx hb dVR_bitsInRangeOfTape_117 hl rfl (ii1 i) (by decide) rfl (fun ls hl => ?_)
              refine lv_goto (tgt := 24) hx hb dVR_bitsInRangeOfTape_120 (by decide) ?_
              exact ih _ _ _ _ _ _ _ _ _ _ _ _ _ _ _ (by omega) (by first | assumption | omega | exact rfl) (by exact hok) (by first | assumption | omega | exact rfl) (by omega) (by first | assumption | omega | exact rfl) (by first | exact hk2 | exact hk1) (by first | exact he.trans (mt_oT (tok_or h46) (by omega)) | exact he.trans (mt_tT (tok_t h46 hq) h85)) ls H locs (lv_sub hl [5, 6, 4, 3, 2, 1, 0] rfl) hM
            · have h56 := (nJ_ne_f (a := ch) (b := 4) (by omega) (by omega)).mp h56
              refine lv_bipush (v := (-4)) hx hb dVR_bitsInRangeOfTape_59 (by decide) ?_
              exact kr_i hx hb hr hlocks hM dVR_bitsInRangeOfTape_61 (⟨(he.trans (mt_oF (tok_or h46) (by omega))).symm, ⟨_, _, _, _, _, _, _, _, _, hk1, rfl⟩⟩)
  refine lv_aload_n hx hb dVR_bitsInRangeOfTape_0 rfl (lv_at hl 0 rfl) ?_
  refine k_get (own := RVR) (ref := RVR) (C := RVR) (T := TVR) (N := 5) (ci := 3) (v := .ref ta) hx hb hW inVR hown hM hxa rfl 0 (by decide) (hW _ w_94) (fun _ h => h) rfl dVR_bitsInRangeOfTape_1 ?_
  refine kc_i (va_runVN (C := RTP) (As := []) (b := ta) (rest := []) (Ts := Wd) ⟨hx, hb, hml, hown, hW⟩ (mTP_splitWords l g μ ht hB hb0 hs0 ho0 hso hln) ⟨(va_cnB 0 hW (k_gC w_137) rfl rfl rfl (hM.2.1.2.1 _ n_134) (hW _ w_2) (by decide +kernel) ⟨Nat.le_of_ble_eq_true rfl, Nat.le_of_ble_eq_true rfl⟩), hW _ w_136, hW _ p_3⟩ (k_preV (q := (RTP, TTP, 6)) hM ht rfl) rfl rfl hl.1 rfl (lv_room (Nat.le_of_ble_eq_true rfl)) dVR_bitsInRangeOfTape_4 ⟨Nat.zero_le _, Nat.zero_le _⟩) hM (fun r μ1 H locs hp hM => ?_)
  obtain ⟨rfl, hmu⟩ := hp
  rw [hmu] at hM
  have hM : kS g (km_up (km_up μ sa (.inl (g.2.2.1 1, 200, .inl (fun j => nI (((spl B S E ln).2.1) j))))) oa (.inl (g.2.2.1 1, 200, .inl (fun j => nI (((spl B S E ln).2.2) j))))) s H locs := hM
  have hsi := spl_ind B S E (fun _ => 0) (fun _ => 0) ln
  have hso1 := spl_ok B S E ln
  have hsb := spl_b B S E ln
  generalize hsp : spl B S E ln = sq at hM hsi hso1 hsb ⊢
  obtain ⟨w, S1, E1⟩ := sq
  have hw2 : 2 * w ≤ ln + 1 := hsb.1
  have hok : ∀ k, k < w → S1 k < E1 k ∧ E1 k ≤ ln := hso1
  have hin : w = (spw B ln).1 ∧ ∀ k, k < w → S1 k = (spw B ln).2.1 k ∧ E1 k = (spw B ln).2.2 k := hsi
  have hM : kS g (km_up (km_up μ sa (.inl (g.2.2.1 1, 200, .inl (fun j => nI (S1 j))))) oa (.inl (g.2.2.1 1, 200, .inl (fun j => nI (E1 j))))) s H locs := hM
  refine topi_eq (y := nI w) rfl ?_
  refine lv_istore_n (lv' := [(1, .int (nI w)), (0, .ref xa)]) hx hb dVR_bitsInRangeOfTape_7 rfl hl (by decide) rfl (fun ls hl => ?_)
  refine lv_iconst (v := nI 0) hx hb dVR_bitsInRangeOfTape_8 (by decide) ?_
  refine lv_istore_n (lv' := [(2, .int (nI 0)), (1, .int (nI w)), (0, .ref xa)]) hx hb dVR_bitsInRangeOfTape_9 rfl hl (by decide) rfl (fun ls hl => ?_)
  refine lv_iconst (v := nI 1) hx hb dVR_bitsInRangeOfTape_10 (by decide) ?_
  refine lv_istore_n (lv' := [(3, .int (nI 1)), (2, .int (nI 0)), (1, .int (nI w)), (0, .ref xa)]) hx hb dVR_bitsInRangeOfTape_11 rfl hl (by decide) rfl (fun ls hl => ?_)
  refine lv_iconst (v := nI 0) hx hb dVR_bitsInRangeOfTape_12 (by decide) ?_
  refine lv_istore (lv' := [(4, .int (nI 0)), (3, .int (nI 1)), (2, .int (nI 0)), (1, .int (nI w)), (0, .ref xa)]) hx hb dVR_bitsInRangeOfTape_13 hl (by decide) rfl (fun ls hl => ?_)
  refine lv_aload_n hx hb dVR_bitsInRangeOfTape_15 rfl (lv_at hl 4 rfl) ?_
  refine kc_i (va_runV (C := RVR) (As := []) (b := xa) (rest := []) (Ts := Wd) ⟨hx, hb, hml, hown, hW⟩ (mVR_allBits l g (km_up (km_up μ sa (.inl (g.2.2.1 1, 200, .inl (fun j => nI (S1 j))))) oa (.inl (g.2.2.1 1, 200, .inl (fun j => nI (E1 j))))) ((km_n (km_apB hxa ho0)).trans ((km_n (km_apB hxa hs0)).trans hxa)) hcnt) (cwV 0 hW (k_gV w_222 w_224 p_18 w_1 w_225) rfl rfl rfl (by decide +kernel) ⟨Nat.le_of_ble_eq_true rfl, Nat.le_of_ble_eq_true rfl⟩) (k_preV (q := (RVR, TVR, 5)) hM ((km_n (km_apB hxa ho0)).trans ((km_n (km_apB hxa hs0)).trans hxa)) rfl) rfl rfl hl.1 rfl (lv_room (Nat.le_of_ble_eq_true rfl)) dVR_bitsInRangeOfTape_16 ⟨Nat.zero_le _, Nat.zero_le _⟩) hM (fun r μ1 H locs hp hM => ?_)
  obtain ⟨rfl, hmu⟩ := hp
  rw [hmu] at hM
  refine lv_istore (lv' := [(5, .int (bN (fun _ => true) cnt)), (4, .int (nI 0)), (3, .int (nI 1)), (2, .int (nI 0)), (1, .int (nI w)), (0, .ref xa)]) hx hb dVR_bitsInRangeOfTape_19 hl (by decide) rfl (fun ls hl => ?_)
  refine lv_iconst (v := nI 0) hx hb dVR_bitsInRangeOfTape_21 (by decide) ?_
  refine lv_istore (lv' := [(6, .int (nI 0)), (5, .int (bN (fun _ => true) cnt)), (4, .int (nI 0)), (3, .int (nI 1)), (2, .int (nI 0)), (1, .int (nI w)), (0, .ref xa)]) hx hb dVR_bitsInRangeOfTape_22 hl (by decide) rfl (fun ls hl => ?_)
  have hM : kS g (km_up (km_up (km_up (km_up (km_up (km_up (km_up (km_up μ sa (.inl (g.2.2.1 1, 200, .inl (fun j => nI (S1 j))))) oa (.inl (g.2.2.1 1, 200, .inl (fun j => nI (E1 j))))) ta (.inr (1, [.ref ba, .ref sa, .ref oa, .int (nI ln), .int (nI ai), .int (nI zi)]))) te (.inr (0, [.ref bo, .ref co, .ref (g.2.2.2.1 k)]))) br (.inl (g.2.2.1 2, 7, .inr (.inl Fb)))) bo (.inr (2, [.ref br, .int (nI bp)]))) er (.inl (g.2.2.1 2, 7, .inr (.inl Fc)))) co (.inr (2, [.ref er, .int (nI ep)]))) s H locs := kS_eq (by rw [km_id ((km_n (km_apB ht ho0)).trans ((km_n (km_apB ht hs0)).trans ht)), km_id ((km_n (km_apB hte ho0)).trans ((km_n (km_apB hte hs0)).trans hte)), km_id ((km_n (km_apN hbr ho0 (by decide))).trans ((km_n (km_apN hbr hs0 (by decide))).trans hbr)), km_id ((km_n (km_apB hbo ho0)).trans ((km_n (km_apB hbo hs0)).trans hbo)), km_id ((km_n (km_apN her ho0 (by decide))).trans ((km_n (km_apN her hs0 (by decide))).trans her)), km_id ((km_n (km_apB hco ho0)).trans ((km_n (km_apB hco hs0)).trans hco))]) hM
  exact cut24 _ _ _ _ _ _ _ _ _ _ _ _ _ _ _ _ (Nat.lt_succ_self _) (by first | assumption | omega | exact rfl) (by exact hok) (by first | assumption | omega | exact rfl) (by omega) (by first | assumption | omega | exact rfl) (by first | assumption | omega | exact rfl) (by have e1 := hin.1; rw [← e1]; exact mtC_congr w 0 _ _ _ _ (fun q h1 h2 => by rw [(hin.2 q (by omega)).1, (hin.2 q (by omega)).2])) ls H locs (lv_sub hl [6, 5, 4, 3, 2, 1, 0] rfl) hM
set_option maxHeartbeats 800000 in
set_option maxRecDepth 100000 in
theorem mVR_match (l : Launch) (g : kG) (μ : km_M) {xa ta la cd te cnt : Nat} (hxa : μ xa = some (.inr (3, [.ref ta, .ref la, .ref cd, .ref te, .int (nI cnt)]))) (hcnt : cnt ≤ 12) {ba sa oa ln ai zi : Nat} (ht : μ ta = some (.inr (1, [.ref ba, .ref sa, .ref oa, .int (nI ln), .int (nI ai), .int (nI zi)]))) {B : Nat → Nat} (hB : ∀ k, B k < 256) (hb0 : μ ba = some (.inl (g.2.2.1 0, 400, .inl (fun j => sb (B j))))) {S E : Nat → Nat} (hs0 : μ sa = some (.inl (g.2.2.1 1, 200, .inl (fun j => nI (S j))))) (ho0 : μ oa = some (.inl (g.2.2.1 1, 200, .inl (fun j => nI (E j))))) (hso : sa ≠ oa) (hln : ln ≤ 400) {V : Nat → Option Nat} {lv lr lp : Nat → Nat} {LF : Nat → Nat → Int64} (hla : μ la = some (.inl (g.2.2.1 4, 12, .inr (.inr (.inr (.inr V)))))) (hV : ∀ k, k < 12 → V k = some (lv k)) (hL : ∀ k, k < 12 → μ (lv k) = some (.inr (2, [.ref (lr k), .int (nI (lp k))])) ∧ μ (lr k) = some (.inl (g.2.2.1 2, 7, .inr (.inl (LF k))))) {bo co k : Nat} (hte : μ te = some (.inr (0, [.ref bo, .ref co, .ref (g.2.2.2.1 k)]))) (hk8 : k < 8) {br bp : Nat} {Fb : Nat → Int64} (hbo : μ bo = some (.inr (2, [.ref br, .int (nI bp)]))) (hbr : μ br = some (.inl (g.2.2.1 2, 7, .inr (.inl Fb)))) {er ep : Nat} {Fc : Nat → Int64} (hco : μ co = some (.inr (2, [.ref er, .int (nI ep)]))) (her : μ er = some (.inl (g.2.2.1 2, 7, .inr (.inl Fc)))) (nbc : bo ≠ co) (nrc : br ≠ er) (nlb : ∀ k, k < 12 → lv k ≠ bo) (nlc : ∀ k, k < 12 → lv k ≠ co) (nrb : ∀ k, k < 12 → lr k ≠ br) (nre : ∀ k, k < 12 → lr k ≠ er) : Met l yVR_match (Cond.code yVR_match cVR_match 2 (some .int) :: Wd) ({ frames := 6, cells := 0, slots := 0, locals := 140 } : Room) (kPre g μ [.ref xa]) (kQi g (fun (r : Int32) (μ1 : km_M) => r = mtC (fun k => tokC B LF cnt ((spw B ln).2.1 k) ((spw B ln).2.2 k)) (bN (fun _ => true) cnt) (spw B ln).1 0 (nI 0) 1 0 (bN (fun _ => true) cnt) ∧ ∃ (S1 E1 : Nat → Nat) (a1 z1 k1 b1 c1 : Nat) (F1 F2 : Nat → Int64), k1 < 8 ∧ μ1 = km_up (km_up (km_up (km_up (km_up (km_up (km_up (km_up μ sa (.inl (g.2.2.1 1, 200, .inl (fun j => nI (S1 j))))) oa (.inl (g.2.2.1 1, 200, .inl (fun j => nI (E1 j))))) ta (.inr (1, [.ref ba, .ref sa, .ref oa, .int (nI 0), .int (nI a1), .int (nI z1)]))) te (.inr (0, [.ref bo, .ref co, .ref (g.2.2.2.1 k1)]))) br (.inl (g.2.2.1 2, 7, .inr (.inl F1)))) bo (.inr (2, [.ref br, .int (nI b1)]))) er (.inl (g.2.2.1 2, 7, .inr (.inl F2)))) co (.inr (2, [.ref er, .int (nI c1)])))) 0 0 (kF g) := by
  refine k_met (by decide) (Nat.le_of_ble_eq_true rfl) ?_
  intro p e s m below meth c hx hb hr hlocks hml hown hnm hW ls hl H locs hM
  have hl : lv_has ls 2 [(0, .ref xa)] := hl
  refine lv_aload_n hx hb dVR_match_0 rfl (lv_at hl 0 rfl) ?_
  refine kc_i (va_runV (C := RVR) (As := []) (b := xa) (rest := []) (Ts := Wd) ⟨hx, hb, hml, hown, hW⟩ (mVR_bitsInRangeOfTape l g μ hxa hcnt ht hB hb0 hs0 ho0 hso hln hla hV hL hte hk8 hbo hbr hco her nbc nrc nlb nlc nrb nre) (cwV 0 hW (k_gV w_218 w_220 p_17 w_1 w_221) rfl rfl rfl (by decide +kernel) ⟨Nat.le_of_ble_eq_true rfl, Nat.le_of_ble_eq_true rfl⟩) (k_preV (q := (RVR, TVR, 5)) hM hxa rfl) rfl rfl hl.1 rfl (lv_room (Nat.le_of_ble_eq_true rfl)) dVR_match_1 ⟨Nat.zero_le _, Nat.zero_le _⟩) hM (fun r μ1 H locs hp hM => ?_)
  obtain ⟨hres, S1, E1, a1, z1, k1, b1, c1, F1, F2, hk1, hmu⟩ := hp
  rw [hmu] at hM
  subst hres
  have hM : kS g (km_up (km_up (km_up (km_up (km_up (km_up (km_up (km_up μ sa (.inl (g.2.2.1 1, 200, .inl (fun j => nI (S1 j))))) oa (.inl (g.2.2.1 1, 200, .inl (fun j => nI (E1 j))))) ta (.inr (1, [.ref ba, .ref sa, .ref oa, .int (nI ln), .int (nI a1), .int (nI z1)]))) te (.inr (0, [.ref bo, .ref co, .ref (g.2.2.2.1 k1)]))) br (.inl (g.2.2.1 2, 7, .inr (.inl F1)))) bo (.inr (2, [.ref br, .int (nI b1)]))) er (.inl (g.2.2.1 2, 7, .inr (.inl F2)))) co (.inr (2, [.ref er, .int (nI c1)]))) s H locs := hM
  refine lv_istore_n (lv' := [(1, .int (mtC (fun k => tokC B LF cnt ((spw B ln).2.1 k) ((spw B ln).2.2 k)) (bN (fun _ => true) cnt) (spw B ln).1 0 (nI 0) 1 0 (bN (fun _ => true) cnt))), (0, .ref xa)]) hx hb dVR_match_4 rfl hl (by decide) rfl (fun ls hl => ?_)
  refine lv_aload_n hx hb dVR_match_5 rfl (lv_at hl 1 rfl) ?_
  refine k_get (own := RVR) (ref := RVR) (C := RVR) (T := TVR) (N := 5) (ci := 3) (v := .ref ta) hx hb hW inVR hown hM ((km_n (km_apC hxa hco (by decide))).trans ((km_n (km_apB hxa her)).trans ((km_n (km_apC hxa hbo (by decide))).trans ((km_n (km_apB hxa hbr)).trans ((km_n (km_apC hxa hte (by decide))).trans ((km_n (km_apC hxa ht (by decide))).trans ((km_n (km_apB hxa ho0)).trans ((km_n (km_apB hxa hs0)).trans hxa)))))))) rfl 0 (by decide) (hW _ w_94) (fun _ h => h) rfl dVR_match_6 ?_
  refine lv_iconst (v := nI 0) hx hb dVR_match_9 (by decide) ?_
  refine k_putN (own := RVR) (ref := RTP) (C := RTP) (T := TTP) (N := 6) (ci := 1) (v := .int (nI 0)) (ty := .int) (fs' := [.ref ba, .ref sa, .ref oa, .int (nI 0), .int (nI a1), .int (nI z1)]) hx hb hW inTP tyTP tyokTP nmokTP hown hM ((km_n (km_apC ht hco (by decide))).trans ((km_n (km_apB ht her)).trans ((km_n (km_apC ht hbo (by decide))).trans ((km_n (km_apB ht hbr)).trans ((km_n (km_apC ht hte (by decide))).trans (km_s _ _ _)))))) rfl 3 (by decide) (va_Nw.use rfl (hM.2.1.2.1 _ n_38)) (fun _ h => h) rfl (by decide +kernel) rfl rfl (Nat.le_of_ble_eq_true rfl) dVR_match_10 rfl (fun H locs hM => ?_)
  have hM : kS g (km_up (km_up (km_up (km_up (km_up (km_up (km_up (km_up μ sa (.inl (g.2.2.1 1, 200, .inl (fun j => nI (S1 j))))) oa (.inl (g.2.2.1 1, 200, .inl (fun j => nI (E1 j))))) ta (.inr (1, [.ref ba, .ref sa, .ref oa, .int (nI 0), .int (nI a1), .int (nI z1)]))) te (.inr (0, [.ref bo, .ref co, .ref (g.2.2.2.1 k1)]))) br (.inl (g.2.2.1 2, 7, .inr (.inl F1)))) bo (.inr (2, [.ref br, .int (nI b1)]))) er (.inl (g.2.2.1 2, 7, .inr (.inl F2)))) co (.inr (2, [.ref er, .int (nI c1)]))) s H locs := kS_eq (km_u6 _ _ _ _ _ _ _ _ (km_apC ht hte (by decide)) (km_apB ht hbr) (km_apC ht hbo (by decide)) (km_apB ht her) (km_apC ht hco (by decide))) hM
  refine lv_iload_n hx hb dVR_match_13 rfl (lv_at hl 0 rfl) ?_
  exact kr_i hx hb hr hlocks hM dVR_match_14 (⟨rfl, ⟨_, _, _, _, _, _, _, _, _, hk1, rfl⟩⟩)
end
section
set_option maxHeartbeats 800000 in
set_option maxRecDepth 100000 in
theorem mRT_init (l : Launch) (g : kG) (μ : km_M) {te : Nat} (hte : μ te = some (.inr (0, [.null, .null, .null]))) : Met l yRT_init (Cond.code yRT_init cRT_init 1 none :: Wd) ({ frames := 2, cells := 4, slots := 18, locals := 60 } : Room) (kPre g μ [.ref te]) (kQv g (fun (μ1 : km_M) => ∃ bo br co er, μ bo = none ∧ μ br = none ∧ μ co = none ∧ μ er = none ∧ br ≠ bo ∧ co ≠ bo ∧ co ≠ br ∧ er ≠ bo ∧ er ≠ br ∧ er ≠ co ∧ μ1 = km_up (km_up (km_up (km_up (km_up μ bo (.inr (2, [.ref br, .int (nI 0)]))) br (.inl (g.2.2.1 2, 7, .inr (.inl (fun _ => 0))))) te (.inr (0, [.ref bo, .ref co, .ref (g.2.2.2.1 0)]))) co (.inr (2, [.ref er, .int (nI 0)]))) er (.inl (g.2.2.1 2, 7, .inr (.inl (fun _ => 0)))))) 4 18 (kF g) := by
  refine k_met (by decide) (Nat.le_of_ble_eq_true rfl) ?_
  intro p e s m below meth c hx hb hr hlocks hml hown hnm hW ls hl H locs hM
  have hl : lv_has ls 1 [(0, .ref te)] := hl
  refine lv_aload_n hx hb dRT_init_0 rfl (lv_at hl 0 rfl) ?_
  refine W.objInit hx hb hown (hW _ w_79) (hW _ w_26) (hW _ w_27) rfl (by rw [hml]; exact hl.1) rfl dRT_init_1 (Nat.le_of_ble_eq_true rfl) (Nat.le_of_ble_eq_true rfl) ?_
  refine W.eq (g2 := F0 m 4 ls []) rfl ?_
  refine lv_aload_n hx hb dRT_init_4 rfl (lv_at hl 0 rfl) ?_
  refine k_new (own := RRT) (C := RVE) (T := TVE) (N := 2) (ci := 2) (fs := [.null, .int (nI 0)]) hx hb hW inVE tyVE tyokVE hown (hW _ w_80) (hW _ w_60) (hW _ w_3) hM rfl (fun j hj => by rcases (show j = 0 ∨ j = 1 by omega) with rfl | rfl <;> rfl) (show 0 + 1 ≤ 4 by omega) (show 0 + 2 ≤ 18 by omega) dRT_init_5 (fun q5 H hnq5 hM => ?_)
  have ne_te_q5 : te ≠ q5 := km_apF hte hnq5
  have hM : kS g (km_up μ q5 (.inr (2, [.null, .int (nI 0)]))) s H locs := hM
  refine W.widen (k := 1) (n := 2) (by omega) (by omega) ?_
  refine lv_dup hx hb dRT_init_8 rfl ?_
  refine kc_v (va_runIN (As := []) (b := q5) (rest := [.ref q5, .ref te]) (Ts := Wd) ⟨hx, hb, hml, hown, hW⟩ (mVE_init l g (km_up μ q5 (.inr (2, [.null, .int (nI 0)]))) (km_s _ _ _)) ⟨(va_cnB 0 hW (k_gC w_63) rfl rfl rfl (hM.2.1.2.1 _ n_81) (hW _ w_3) (by decide +kernel) ⟨Nat.le_of_ble_eq_true rfl, Nat.le_of_ble_eq_true rfl⟩), rfl, hW _ w_62⟩ (k_preS hM) rfl rfl hl.1 rfl (lv_room (Nat.le_of_ble_eq_true rfl)) dRT_init_9 ⟨(show 1 + 1 ≤ 4 by omega), (show 2 + 7 ≤ 18 by omega)⟩) hM (fun μ1 H locs hp hM => ?_)
  obtain ⟨w1, hw1, hmu⟩ := hp
  subst hmu
  refine W.widen (k := 2) (n := 9) (by omega) (by omega) ?_
  have ne_te_w1 : te ≠ w1 := km_apF ((km_n ne_te_q5).trans hte) hw1
  have ne_q5_w1 : q5 ≠ w1 := km_apF (km_s _ _ _) hw1
  have hM : kS g (km_up (km_up (km_up μ q5 (.inr (2, [.null, .int (nI 0)]))) w1 (.inl (g.2.2.1 2, 7, .inr (.inl (fun _ => 0))))) q5 (.inr (2, [.ref w1, .int (nI 0)]))) s H locs := hM
  have hM : kS g (km_up (km_up μ q5 (.inr (2, [.ref w1, .int (nI 0)]))) w1 (.inl (g.2.2.1 2, 7, .inr (.inl (fun _ => 0))))) s H locs := kS_eq (km_u2 _ _ _ _ ne_q5_w1) hM
  refine k_putF (own := RRT) (ref := RRT) (C := RRT) (T := TRT) (N := 3) (ci := 0) (v := .ref q5) (ty := .object "VersionRanges$Version") (fs' := [.ref q5, .null, .null]) hx hb hW inRT tyRT tyokRT nmokRT hown hM ((km_n ne_te_w1).trans ((km_n ne_te_q5).trans hte)) rfl 0 (by decide) (hW _ w_84) (fun _ h => h) rfl hnm rfl (by decide +kernel) rfl rfl (Nat.le_of_ble_eq_true rfl) dRT_init_12 rfl (fun H locs hM => ?_)
  have hM : kS g (km_up (km_up (km_up μ q5 (.inr (2, [.ref w1, .int (nI 0)]))) w1 (.inl (g.2.2.1 2, 7, .inr (.inl (fun _ => 0))))) te (.inr (0, [.ref q5, .null, .null]))) s H locs := hM
  refine lv_aload_n hx hb dRT_init_15 rfl (lv_at hl 0 rfl) ?_
  refine k_new (own := RRT) (C := RVE) (T := TVE) (N := 2) (ci := 2) (fs := [.null, .int (nI 0)]) hx hb hW inVE tyVE tyokVE hown (hW _ w_80) (hW _ w_60) (hW _ w_3) hM rfl (fun j hj => by rcases (show j = 0 ∨ j = 1 by omega) with rfl | rfl <;> rfl) (show 2 + 1 ≤ 4 by omega) (show 9 + 2 ≤ 18 by omega) dRT_init_16 (fun q16 H hnq16 hM => ?_)
  have ne_te_q16 : te ≠ q16 := km_apF (km_s _ _ _) hnq16
  have ne_q5_q16 : q5 ≠ q16 := km_apF ((km_n (Ne.symm ne_te_q5)).trans ((km_n ne_q5_w1).trans (km_s _ _ _))) hnq16
  have ne_w1_q16 : w1 ≠ q16 := km_apF ((km_n (Ne.symm ne_te_w1)).trans (km_s _ _ _)) hnq16
  have hM : kS g (km_up (km_up (km_up (km_up μ q5 (.inr (2, [.ref w1, .int (nI 0)]))) w1 (.inl (g.2.2.1 2, 7, .inr (.inl (fun _ => 0))))) te (.inr (0, [.ref q5, .null, .null]))) q16 (.inr (2, [.null, .int (nI 0)]))) s H locs := hM
  refine W.widen (k := 3) (n := 11) (by omega) (by omega) ?_
  refine lv_dup hx hb dRT_init_19 rfl ?_
  refine kc_v (va_runIN (As := []) (b := q16) (rest := [.ref q16, .ref te]) (Ts := Wd) ⟨hx, hb, hml, hown, hW⟩ (mVE_init l g (km_up (km_up (km_up (km_up μ q5 (.inr (2, [.ref w1, .int (nI 0)]))) w1 (.inl (g.2.2.1 2, 7, .inr (.inl (fun _ => 0))))) te (.inr (0, [.ref q5, .null, .null]))) q16 (.inr (2, [.null, .int (nI 0)]))) (km_s _ _ _)) ⟨(va_cnB 0 hW (k_gC w_63) rfl rfl rfl (hM.2.1.2.1 _ n_81) (hW _ w_3) (by decide +kernel) ⟨Nat.le_of_ble_eq_true rfl, Nat.le_of_ble_eq_true rfl⟩), rfl, hW _ w_62⟩ (k_preS hM) rfl rfl hl.1 rfl (lv_room (Nat.le_of_ble_eq_true rfl)) dRT_init_20 ⟨(show 3 + 1 ≤ 4 by omega), (show 11 + 7 ≤ 18 by omega)⟩) hM (fun μ1 H locs hp hM => ?_)
  obtain ⟨w2, hw2, hmu⟩ := hp
  subst hmu
  refine W.widen (k := 4) (n := 18) (by omega) (by omega) ?_
  have ne_te_w2 : te ≠ w2 := km_apF ((km_n ne_te_q16).trans (km_s _ _ _)) hw2
  have ne_q5_w2 : q5 ≠ w2 := km_apF ((km_n ne_q5_q16).trans ((km_n (Ne.symm ne_te_q5)).trans ((km_n ne_q5_w1).trans (km_s _ _ _)))) hw2
  have ne_w1_w2 : w1 ≠ w2 := km_apF ((km_n ne_w1_q16).trans ((km_n (Ne.symm ne_te_w1)).trans (km_s _ _ _))) hw2
  have ne_q16_w2 : q16 ≠ w2 := km_apF (km_s _ _ _) hw2
  have hM : kS g (km_up (km_up (km_up (km_up (km_up (km_up μ q5 (.inr (2, [.ref w1, .int (nI 0)]))) w1 (.inl (g.2.2.1 2, 7, .inr (.inl (fun _ => 0))))) te (.inr (0, [.ref q5, .null, .null]))) q16 (.inr (2, [.null, .int (nI 0)]))) w2 (.inl (g.2.2.1 2, 7, .inr (.inl (fun _ => 0))))) q16 (.inr (2, [.ref w2, .int (nI 0)]))) s H locs := hM
  have hM : kS g (km_up (km_up (km_up (km_up (km_up μ q5 (.inr (2, [.ref w1, .int (nI 0)]))) w1 (.inl (g.2.2.1 2, 7, .inr (.inl (fun _ => 0))))) te (.inr (0, [.ref q5, .null, .null]))) q16 (.inr (2, [.ref w2, .int (nI 0)]))) w2 (.inl (g.2.2.1 2, 7, .inr (.inl (fun _ => 0))))) s H locs := kS_eq (km_u2 _ _ _ _ ne_q16_w2) hM
  refine k_putF (own := RRT) (ref := RRT) (C := RRT) (T := TRT) (N := 3) (ci := 0) (v := .ref q16) (ty := .object "VersionRanges$Version") (fs' := [.ref q5, .ref q16, .null]) hx hb hW inRT tyRT tyokRT nmokRT hown hM ((km_n ne_te_w2).trans ((km_n ne_te_q16).trans (km_s _ _ _))) rfl 1 (by decide) (hW _ w_85) (fun _ h => h) rfl hnm rfl (by decide +kernel) rfl rfl (Nat.le_of_ble_eq_true rfl) dRT_init_23 rfl (fun H locs hM => ?_)
  have hM : kS g (km_up (km_up (km_up (km_up (km_up μ q5 (.inr (2, [.ref w1, .int (nI 0)]))) w1 (.inl (g.2.2.1 2, 7, .inr (.inl (fun _ => 0))))) te (.inr (0, [.ref q5, .ref q16, .null]))) q16 (.inr (2, [.ref w2, .int (nI 0)]))) w2 (.inl (g.2.2.1 2, 7, .inr (.inl (fun _ => 0))))) s H locs := kS_eq (km_u3 _ _ _ _ _ ne_te_q16 ne_te_w2) hM
  refine lv_aload_n hx hb dRT_init_26 rfl (lv_at hl 0 rfl) ?_
  refine va_gets (C := "VersionRanges$Sign") (n := "ALL") (d := "LVersionRanges$Sign;") (v := .ref (g.2.2.2.1 0)) hx hb (hM.2.1.2.2.1.1 0 (by decide)).1 hM.2.2.2 hown (hW _ w_82) (fun _ h => h) dRT_init_27 ?_
  refine k_put (own := RRT) (ref := RRT) (C := RRT) (T := TRT) (N := 3) (ci := 0) (v := .ref (g.2.2.2.1 0)) (ty := .object "VersionRanges$Sign") (fs' := [.ref q5, .ref q16, .ref (g.2.2.2.1 0)]) hx hb hW inRT tyRT tyokRT nmokRT hown hM ((km_n ne_te_w2).trans ((km_n ne_te_q16).trans (km_s _ _ _))) rfl 2 (by decide) (hW _ w_86) (fun _ h => h) rfl (by decide +kernel) rfl rfl (Nat.le_of_ble_eq_true rfl) dRT_init_30 rfl (fun H locs hM => ?_)
  have hM : kS g (km_up (km_up (km_up (km_up (km_up μ q5 (.inr (2, [.ref w1, .int (nI 0)]))) w1 (.inl (g.2.2.1 2, 7, .inr (.inl (fun _ => 0))))) te (.inr (0, [.ref q5, .ref q16, .ref (g.2.2.2.1 0)]))) q16 (.inr (2, [.ref w2, .int (nI 0)]))) w2 (.inl (g.2.2.1 2, 7, .inr (.inl (fun _ => 0))))) s H locs := kS_eq (km_u3 _ _ _ _ _ ne_te_q16 ne_te_w2) hM
  exact kr_v hx hb hr hlocks hM dRT_init_33 (⟨_, _, _, _, hnq5, (km_none hw1).2, (km_none (km_none (km_none hnq16).2).2).2, (km_none (km_none (km_none (km_none hw2).2).2).2).2, (km_none hw1).1, (km_none (km_none (km_none hnq16).2).2).1, (km_none (km_none hnq16).2).1, (km_none (km_none (km_none (km_none hw2).2).2).2).1, (km_none (km_none (km_none hw2).2).2).1, (km_none hw2).1, rfl⟩)
end
section
-- the list while it is being made
def LI0 (g : kG) (ν : km_M) (V : Nat → Option Nat) (lv lr : Nat → Nat) (k : Nat) : Prop :=
  (∀ j, j < k → V j = some (lv j) ∧ ν (lv j) = some (.inr (2, [.ref (lr j), .int (nI 0)])) ∧ ν (lr j) = some (.inl (g.2.2.1 2, 7, .inr (.inl (fun _ => 0))))) ∧ ∀ i j, i < k → j < k → i ≠ j → lv i ≠ lv j ∧ lr i ≠ lr j
theorem LI0_0 {g : kG} {ν : km_M} {V : Nat → Option Nat} {lv lr : Nat → Nat} : LI0 g ν V lv lr 0 := ⟨fun j h => absurd h (Nat.not_lt_zero _), fun i j h => absurd h (Nat.not_lt_zero _)⟩
theorem LI0_step {g : kG} {ν : km_M} {V : Nat → Option Nat} {lv lr : Nat → Nat} {k q w la : Nat} {e0 e2 : va_E} {x : (Nat → Int32) ⊕ (Nat → Int64) ⊕ (Nat → UInt32) ⊕ (Nat → UInt64) ⊕ (Nat → Option Nat)} (h : LI0 g ν V lv lr k) (hla : ν la = some (.inl (g.2.2.1 4, 12, x))) (hq : ν q = none) (hw : km_up ν q e0 w = none) :
    LI0 g (km_up (km_up (km_up ν q (.inr (2, [.ref w, .int (nI 0)]))) w (.inl (g.2.2.1 2, 7, .inr (.inl (fun _ => 0))))) la e2) (va_up V k (some q)) (va_up lv k q) (va_up lr k w) (k + 1) := by
  obtain ⟨h1, h2⟩ := h
  obtain ⟨hwq, hwn⟩ := km_none hw
  have hlq : la ≠ q := km_apF hla hq
  have hlw : la ≠ w := km_apF hla hwn
  constructor
  · intro j hj
    by_cases hk : j = k
    · rw [hk, va_up_self, va_up_self, va_up_self]
      exact ⟨rfl, (km_n (Ne.symm hlq)).trans ((km_n (Ne.symm hwq)).trans (km_s _ _ _)), (km_n (Ne.symm hlw)).trans (km_s _ _ _)⟩
    · obtain ⟨a1, a2, a3⟩ := h1 j (by omega)
      rw [va_up_ne _ _ hk, va_up_ne _ _ hk, va_up_ne _ _ hk]
      exact ⟨a1, (km_n (km_apB a2 hla)).trans ((km_n (km_apF a2 hwn)).trans ((km_n (km_apF a2 hq)).trans a2)), (km_n (km_apN a3 hla (by decide))).trans ((km_n (km_apF a3 hwn)).trans ((km_n (km_apF a3 hq)).trans a3))⟩
  · intro i j hi hj hij
    by_cases hik : i = k
    · have hjk : ¬ j = k := fun z => hij (hik.trans z.symm)
      obtain ⟨a1, a2, a3⟩ := h1 j (by omega)
      rw [hik, va_up_self, va_up_self, va_up_ne _ _ hjk, va_up_ne _ _ hjk]
      exact ⟨Ne.symm (km_apF a2 hq), Ne.symm (km_apF a3 hwn)⟩
    · by_cases hjk : j = k
      · obtain ⟨a1, a2, a3⟩ := h1 i (by omega)
        rw [hjk, va_up_self, va_up_self, va_up_ne _ _ hik, va_up_ne _ _ hik]
        exact ⟨km_apF a2 hq, km_apF a3 hwn⟩
      · rw [va_up_ne _ _ hik, va_up_ne _ _ hik, va_up_ne _ _ hjk, va_up_ne _ _ hjk]
        exact h2 i j (by omega) (by omega) hij
/-- what a VersionRanges is in memory: its tape's bytes B, ln of them, its list vs -/
def kCI (g : kG) (μ : km_M) (xa ta ba sa oa la cd cr te bo br co er : Nat) (lv lr : Nat → Nat) (B : Nat → Nat) (ln : Nat) (vs : List kVer) : Prop :=
  (∀ k, B k < 256) ∧ ln ≤ 400 ∧ vs.length ≤ 12 ∧ μ xa = some (.inr (3, [.ref ta, .ref la, .ref cd, .ref te, .int (nI vs.length)])) ∧
  (∃ (ai zi : Nat) (S E : Nat → Nat), μ ta = some (.inr (1, [.ref ba, .ref sa, .ref oa, .int (nI ln), .int (nI ai), .int (nI zi)])) ∧ μ sa = some (.inl (g.2.2.1 1, 200, .inl (fun j => nI (S j)))) ∧ μ oa = some (.inl (g.2.2.1 1, 200, .inl (fun j => nI (E j))))) ∧
  μ ba = some (.inl (g.2.2.1 0, 400, .inl (fun j => sb (B j)))) ∧
  (∃ V, μ la = some (.inl (g.2.2.1 4, 12, .inr (.inr (.inr (.inr V))))) ∧ ∀ k, k < 12 → V k = some (lv k)) ∧
  (∃ (lp : Nat → Nat) (LF : Nat → Nat → Int64), (∀ k, k < 12 → μ (lv k) = some (.inr (2, [.ref (lr k), .int (nI (lp k))])) ∧ μ (lr k) = some (.inl (g.2.2.1 2, 7, .inr (.inl (LF k))))) ∧ ∀ k v, vs[k]? = some v → lp k = mLen v.2.2.2 ∧ ∀ j, j < 7 → LF k j = rowOf v j) ∧
  (∃ (cp : Nat) (CF : Nat → Int64), μ cd = some (.inr (2, [.ref cr, .int (nI cp)])) ∧ μ cr = some (.inl (g.2.2.1 2, 7, .inr (.inl CF)))) ∧
  (∃ (k bp : Nat) (Fb : Nat → Int64) (ep : Nat) (Fc : Nat → Int64), k < 8 ∧ μ te = some (.inr (0, [.ref bo, .ref co, .ref (g.2.2.2.1 k)])) ∧ μ bo = some (.inr (2, [.ref br, .int (nI bp)])) ∧ μ br = some (.inl (g.2.2.1 2, 7, .inr (.inl Fb))) ∧ μ co = some (.inr (2, [.ref er, .int (nI ep)])) ∧ μ er = some (.inl (g.2.2.1 2, 7, .inr (.inl Fc))))
def kCD (sa oa cd cr bo br co er : Nat) (lv lr : Nat → Nat) : Prop :=
  sa ≠ oa ∧ cd ≠ bo ∧ cd ≠ co ∧ bo ≠ co ∧ cr ≠ br ∧ cr ≠ er ∧ br ≠ er ∧ (∀ k, k < 12 → lv k ≠ cd ∧ lv k ≠ bo ∧ lv k ≠ co ∧ lr k ≠ cr ∧ lr k ≠ br ∧ lr k ≠ er) ∧ ∀ i j, i < 12 → j < 12 → i ≠ j → lv i ≠ lv j ∧ lr i ≠ lr j
set_option maxHeartbeats 2000000 in
set_option maxRecDepth 100000 in
theorem mVR_init (l : Launch) (g : kG) (μ : km_M) {xa : Nat} (hxa : μ xa = some (.inr (3, [.null, .null, .null, .null, .int (nI 0)]))) : Met l yVR_init (Cond.code yVR_init cVR_init 2 none :: Wd) ({ frames := 3, cells := 36, slots := 956, locals := 80 } : Room) (kPre g μ [.ref xa]) (kQv g (fun (μ1 : km_M) => ∃ (ta ba sa oa la cd cr te bo br co er : Nat) (lv lr : Nat → Nat), kCD sa oa cd cr bo br co er lv lr ∧ kCI g μ1 xa ta ba sa oa la cd cr te bo br co er lv lr (fun _ => 0) 0 [])) 36 956 (kF g) := by
  refine k_met (by decide) (Nat.le_of_ble_eq_true rfl) ?_
  intro p e s m below meth c hx hb hr hlocks hml hown hnm hW ls hl H locs hM
  have hl : lv_has ls 2 [(0, .ref xa)] := hl
  have cut26 : ∀ (n : Nat), ∀ (k : Nat) (ν : km_M) (V : Nat → Option Nat) (lv : Nat → Nat) (lr : Nat → Nat) (ta : Nat) (ba : Nat) (sa : Nat) (oa : Nat) (la : Nat), 12 - k < n → k ≤ 12 → ν xa = some (.inr (3, [.ref ta, .ref la, .null, .null, .int (nI 0)])) → ν ta = some (.inr (1, [.ref ba, .ref sa, .ref oa, .int (nI 0), .int (nI 0), .int (nI 0)])) → ν ba = some (.inl (g.2.2.1 0, 400, .inl (fun j => sb ((fun _ => 0) j)))) → ν sa = some (.inl (g.2.2.1 1, 200, .inl (fun j => nI ((fun _ => 0) j)))) → ν oa = some (.inl (g.2.2.1 1, 200, .inl (fun j => nI ((fun _ => 0) j)))) → sa ≠ oa → ν la = some (.inl (g.2.2.1 4, 12, .inr (.inr (.inr (.inr V))))) → LI0 g ν V lv lr k → ∀ (ls : Array Slot) (H : Heap) (locs : List Loc), lv_has ls 2 [(0, .ref xa), (1, .int (nI k))] → kS g (ν) s H locs → W p l e ({ frames := 3, cells := 36, slots := 956, locals := 80 } : Room) s m [.ref xa].toArray below meth c H locs (5 + 2 * k) (818 + 9 * k) (MQ below (kQv g (fun (μ1 : km_M) => ∃ (ta ba sa oa la cd cr te bo br co er : Nat) (lv lr : Nat → Nat), kCD sa oa cd cr bo br co er lv lr ∧ kCI g μ1 xa ta ba sa oa la cd cr te bo br co er lv lr (fun _ => 0) 0 [])) [.ref xa].toArray s 36 956 (kF g)) (F0 m 26 ls []) := by
    intro n
    induction n with
    | zero => intro k ν V lv lr ta ba sa oa la hlt; exact absurd hlt (Nat.not_lt_zero _)
    | succ n ih =>
      intro k ν V lv lr ta ba sa oa la hlt hk fx ft fb fs fo fso fl hLI ls H locs hl hM
      refine lv_iload_n hx hb dVR_init_26 rfl (lv_at hl 1 rfl) ?_
      refine lv_bipush (v := nI 12) hx hb dVR_init_27 (by decide) ?_
      refine lv_icmp_ge (tgt := 51) hx hb dVR_init_29 (by decide) (fun h29 => ?_) (fun h29 => ?_)
      · have h29 := (nJ_ge_t (a := k) (b := 12) (by omega) (by omega)).mp h29
        refine lv_aload_n hx hb dVR_init_51 rfl (lv_at hl 0 rfl) ?_
        refine k_new (own := RVR) (C := RVE) (T := TVE) (N := 2) (ci := 2) (fs := [.null, .int (nI 0)]) hx hb hW inVE tyVE tyokVE hown (hW _ w_58) (hW _ w_60) (hW _ w_3) hM rfl (fun j hj => by rcases (show j = 0 ∨ j = 1 by omega) with rfl | rfl <;> rfl) (show (5 + 2 * k) + 1 ≤ 36 by omega) (show (818 + 9 * k) + 2 ≤ 956 by omega) dVR_init_52 (fun q52 H hnq52 hM => ?_)
        have ne_xa_q52 : xa ≠ q52 := km_apF fx hnq52
        have ne_ta_q52 : ta ≠ q52 := km_apF ft hnq52
        have ne_ba_q52 : ba ≠ q52 := km_apF fb hnq52
        have ne_sa_q52 : sa ≠ q52 := km_apF fs hnq52
        have ne_oa_q52 : oa ≠ q52 := km_apF fo hnq52
        have ne_la_q52 : la ≠ q52 := km_apF fl hnq52
        have ne_lv_q52 : ∀ q, q < 12 → lv q ≠ q52 := fun q hq9 => km_apF (hLI.1 q (by omega)).2.1 hnq52
        have ne_lr_q52 : ∀ q, q < 12 → lr q ≠ q52 := fun q hq9 => km_apF (hLI.1 q (by omega)).2.2 hnq52
        have hM : kS g (km_up ν q52 (.inr (2, [.null, .int (nI 0)]))) s H locs := hM
        refine W.widen (k := (5 + 2 * k) + 1) (n := (818 + 9 * k) + 2) (by omega) (by omega) ?_
        refine lv_dup hx hb dVR_init_55 rfl ?_
        refine kc_v (va_runIN (As := []) (b := q52) (rest := [.ref q52, .ref xa]) (Ts := Wd) ⟨hx, hb, hml, hown, hW⟩ (mVE_init l g (km_up ν q52 (.inr (2, [.null, .int (nI 0)]))) (km_s _ _ _)) ⟨(va_cnB 0 hW (k_gC w_63) rfl rfl rfl (hM.2.1.2.1 _ n_61) (hW _ w_3) (by decide +kernel) ⟨Nat.le_of_ble_eq_true rfl, Nat.le_of_ble_eq_true rfl⟩), rfl, hW _ w_62⟩ (k_preS hM) rfl rfl hl.1 rfl (lv_room (Nat.le_of_ble_eq_true rfl)) dVR_init_56 ⟨(show ((5 + 2 * k) + 1) + 1 ≤ 36 by omega), (show ((818 + 9 * k) + 2) + 7 ≤ 956 by omega)⟩) hM (fun μ1 H locs hp hM => ?_)
        obtain ⟨w1, hw1, hmu⟩ := hp
        subst hmu
        refine W.widen (k := (5 + 2 * k) + 2) (n := (818 + 9 * k) + 9) (by omega) (by omega) ?_
        have ne_xa_w1 : xa ≠ w1 := km_apF ((km_n ne_xa_q52).trans fx) hw1
        have ne_ta_w1 : ta ≠ w1 := km_apF ((km_n ne_ta_q52).trans ft) hw1
        have ne_ba_w1 : ba ≠ w1 := km_apF ((km_n ne_ba_q52).trans fb) hw1
        have ne_sa_w1 : sa ≠ w1 := km_apF ((km_n ne_sa_q52).trans fs) hw1
        have ne_oa_w1 : oa ≠ w1 := km_apF ((km_n ne_oa_q52).trans fo) hw1
        have ne_la_w1 : la ≠ w1 := km_apF ((km_n ne_la_q52).trans fl) hw1
        have ne_q52_w1 : q52 ≠ w1 := km_apF (km_s _ _ _) hw1
        have ne_lv_w1 : ∀ q, q < 12 → lv q ≠ w1 := fun q hq9 => km_apF ((km_n (ne_lv_q52 q hq9)).trans (hLI.1 q (by omega)).2.1) hw1
        have ne_lr_w1 : ∀ q, q < 12 → lr q ≠ w1 := fun q hq9 => km_apF ((km_n (ne_lr_q52 q hq9)).trans (hLI.1 q (by omega)).2.2) hw1
        have hM : kS g (km_up (km_up (km_up ν q52 (.inr (2, [.null, .int (nI 0)]))) w1 (.inl (g.2.2.1 2, 7, .inr (.inl (fun _ => 0))))) q52 (.inr (2, [.ref w1, .int (nI 0)]))) s H locs := hM
        have hM : kS g (km_up (km_up ν q52 (.inr (2, [.ref w1, .int (nI 0)]))) w1 (.inl (g.2.2.1 2, 7, .inr (.inl (fun _ => 0))))) s H locs := kS_eq (km_u2 _ _ _ _ ne_q52_w1) hM
        refine k_putF (own := RVR) (ref := RVR) (C := RVR) (T := TVR) (N := 5) (ci := 3) (v := .ref q52) (ty := .object "VersionRanges$Version") (fs' := [.ref ta, .ref la, .ref q52, .null, .int (nI 0)]) hx hb hW inVR tyVR tyokVR nmokVR hown hM ((km_n ne_xa_w1).trans ((km_n ne_xa_q52).trans fx)) rfl 2 (by decide) (hW _ w_96) (fun _ h => h) rfl hnm rfl (by decide +kernel) rfl rfl (Nat.le_of_ble_eq_true rfl) dVR_init_59 rfl (fun H locs hM => ?_)
        have hM : kS g (km_up (km_up (km_up ν q52 (.inr (2, [.ref w1, .int (nI 0)]))) w1 (.inl (g.2.2.1 2, 7, .inr (.inl (fun _ => 0))))) xa (.inr (3, [.ref ta, .ref la, .ref q52, .null, .int (nI 0)]))) s H locs := hM
        refine lv_aload_n hx hb dVR_init_62 rfl (lv_at hl 0 rfl) ?_
        refine k_new (own := RVR) (C := RRT) (T := TRT) (N := 3) (ci := 0) (fs := [.null, .null, .null]) hx hb hW inRT tyRT tyokRT hown (hW _ w_74) (hW _ w_75) (hW _ w_4) hM rfl (fun j hj => by rcases (show j = 0 ∨ j = 1 ∨ j = 2 by omega) with rfl | rfl | rfl <;> rfl) (show ((5 + 2 * k) + 2) + 1 ≤ 36 by omega) (show ((818 + 9 * k) + 9) + 3 ≤ 956 by omega) dVR_init_63 (fun q63 H hnq63 hM => ?_)
        have ne_xa_q63 : xa ≠ q63 := km_apF (km_s _ _ _) hnq63
        have ne_ta_q63 : ta ≠ q63 := km_apF ((km_n (km_apC ft fx (by decide))).trans ((km_n ne_ta_w1).trans ((km_n ne_ta_q52).trans ft))) hnq63
        have ne_ba_q63 : ba ≠ q63 := km_apF ((km_n (km_apA fb fx)).trans ((km_n ne_ba_w1).trans ((km_n ne_ba_q52).trans fb))) hnq63
        have ne_sa_q63 : sa ≠ q63 := km_apF ((km_n (km_apA fs fx)).trans ((km_n ne_sa_w1).trans ((km_n ne_sa_q52).trans fs))) hnq63
        have ne_oa_q63 : oa ≠ q63 := km_apF ((km_n (km_apA fo fx)).trans ((km_n ne_oa_w1).trans ((km_n ne_oa_q52).trans fo))) hnq63
        have ne_la_q63 : la ≠ q63 := km_apF ((km_n (km_apA fl fx)).trans ((km_n ne_la_w1).trans ((km_n ne_la_q52).trans fl))) hnq63
        have ne_q52_q63 : q52 ≠ q63 := km_apF ((km_n (Ne.symm ne_xa_q52)).trans ((km_n ne_q52_w1).trans (km_s _ _ _))) hnq63
        have ne_w1_q63 : w1 ≠ q63 := km_apF ((km_n (Ne.symm ne_xa_w1)).trans (km_s _ _ _)) hnq63
        have ne_lv_q63 : ∀ q, q < 12 → lv q ≠ q63 := fun q hq9 => km_apF ((km_n (km_apC (hLI.1 q (by omega)).2.1 fx (by decide))).trans ((km_n (ne_lv_w1 q hq9)).trans ((km_n (ne_lv_q52 q hq9)).trans (hLI.1 q (by omega)).2.1))) hnq63
        have ne_lr_q63 : ∀ q, q < 12 → lr q ≠ q63 := fun q hq9 => km_apF ((km_n (km_apA (hLI.1 q (by omega)).2.2 fx)).trans ((km_n (ne_lr_w1 q hq9)).trans ((km_n (ne_lr_q52 q hq9)).trans (hLI.1 q (by omega)).2.2))) hnq63
        have hM : kS g (km_up (km_up (km_up (km_up ν q52 (.inr (2, [.ref w1, .int (nI 0)]))) w1 (.inl (g.2.2.1 2, 7, .inr (.inl (fun _ => 0))))) xa (.inr (3, [.ref ta, .ref la, .ref q52, .null, .int (nI 0)]))) q63 (.inr (0, [.null, .null, .null]))) s H locs := hM
        refine W.widen (k := (5 + 2 * k) + 3) (n := (818 + 9 * k) + 12) (by omega) (by omega) ?_
        refine lv_dup hx hb dVR_init_66 rfl ?_
        refine kc_v (va_runIN (As := []) (b := q63) (rest := [.ref q63, .ref xa]) (Ts := Wd) ⟨hx, hb, hml, hown, hW⟩ (mRT_init l g (km_up (km_up (km_up (km_up ν q52 (.inr (2, [.ref w1, .int (nI 0)]))) w1 (.inl (g.2.2.1 2, 7, .inr (.inl (fun _ => 0))))) xa (.inr (3, [.ref ta, .ref la, .ref q52, .null, .int (nI 0)]))) q63 (.inr (0, [.null, .null, .null]))) (km_s _ _ _)) ⟨(va_cnB 0 hW (k_gC w_78) rfl rfl rfl (hM.2.1.2.1 _ n_76) (hW _ w_4) (by decide +kernel) ⟨Nat.le_of_ble_eq_true rfl, Nat.le_of_ble_eq_true rfl⟩), rfl, hW _ w_77⟩ (k_preS hM) rfl rfl hl.1 rfl (lv_room (Nat.le_of_ble_eq_true rfl)) dVR_init_67 ⟨(show ((5 + 2 * k) + 3) + 4 ≤ 36 by omega), (show ((818 + 9 * k) + 12) + 18 ≤ 956 by omega)⟩) hM (fun μ1 H locs hp hM => ?_)
        obtain ⟨bo, br, co, er, hwo1, hwo2, hwo3, hwo4, hm1, hm2, hm3, hm4, hm5, hm6, hmu⟩ := hp
        subst hmu
        refine W.widen (k := (5 + 2 * k) + 7) (n := (818 + 9 * k) + 30) (by omega) (by omega) ?_
        have ne_xa_bo : xa ≠ bo := km_apF ((km_n ne_xa_q63).trans (km_s _ _ _)) hwo1
        have ne_ta_bo : ta ≠ bo := km_apF ((km_n ne_ta_q63).trans ((km_n (km_apC ft fx (by decide))).trans ((km_n ne_ta_w1).trans ((km_n ne_ta_q52).trans ft)))) hwo1
        have ne_ba_bo : ba ≠ bo := km_apF ((km_n ne_ba_q63).trans ((km_n (km_apA fb fx)).trans ((km_n ne_ba_w1).trans ((km_n ne_ba_q52).trans fb)))) hwo1
        have ne_sa_bo : sa ≠ bo := km_apF ((km_n ne_sa_q63).trans ((km_n (km_apA fs fx)).trans ((km_n ne_sa_w1).trans ((km_n ne_sa_q52).trans fs)))) hwo1
        have ne_oa_bo : oa ≠ bo := km_apF ((km_n ne_oa_q63).trans ((km_n (km_apA fo fx)).trans ((km_n ne_oa_w1).trans ((km_n ne_oa_q52).trans fo)))) hwo1
        have ne_la_bo : la ≠ bo := km_apF ((km_n ne_la_q63).trans ((km_n (km_apA fl fx)).trans ((km_n ne_la_w1).trans ((km_n ne_la_q52).trans fl)))) hwo1
        have ne_q52_bo : q52 ≠ bo := km_apF ((km_n ne_q52_q63).trans ((km_n (Ne.symm ne_xa_q52)).trans ((km_n ne_q52_w1).trans (km_s _ _ _)))) hwo1
        have ne_w1_bo : w1 ≠ bo := km_apF ((km_n ne_w1_q63).trans ((km_n (Ne.symm ne_xa_w1)).trans (km_s _ _ _))) hwo1
        have ne_q63_bo : q63 ≠ bo := km_apF (km_s _ _ _) hwo1
        have ne_lv_bo : ∀ q, q < 12 → lv q ≠ bo := fun q hq9 => km_apF ((km_n (ne_lv_q63 q hq9)).trans ((km_n (km_apC (hLI.1 q (by omega)).2.1 fx (by decide))).trans ((km_n (ne_lv_w1 q hq9)).trans ((km_n (ne_lv_q52 q hq9)).trans (hLI.1 q (by omega)).2.1)))) hwo1
        have ne_lr_bo : ∀ q, q < 12 → lr q ≠ bo := fun q hq9 => km_apF ((km_n (ne_lr_q63 q hq9)).trans ((km_n (km_apA (hLI.1 q (by omega)).2.2 fx)).trans ((km_n (ne_lr_w1 q hq9)).trans ((km_n (ne_lr_q52 q hq9)).trans (hLI.1 q (by omega)).2.2)))) hwo1
        have ne_xa_br : xa ≠ br := km_apF ((km_n ne_xa_q63).trans (km_s _ _ _)) hwo2
        have ne_ta_br : ta ≠ br := km_apF ((km_n ne_ta_q63).trans ((km_n (km_apC ft fx (by decide))).trans ((km_n ne_ta_w1).trans ((km_n ne_ta_q52).trans ft)))) hwo2
        have ne_ba_br : ba ≠ br := km_apF ((km_n ne_ba_q63).trans ((km_n (km_apA fb fx)).trans ((km_n ne_ba_w1).trans ((km_n ne_ba_q52).trans fb)))) hwo2
        have ne_sa_br : sa ≠ br := km_apF ((km_n ne_sa_q63).trans ((km_n (km_apA fs fx)).trans ((km_n ne_sa_w1).trans ((km_n ne_sa_q52).trans fs)))) hwo2
        have ne_oa_br : oa ≠ br := km_apF ((km_n ne_oa_q63).trans ((km_n (km_apA fo fx)).trans ((km_n ne_oa_w1).trans ((km_n ne_oa_q52).trans fo)))) hwo2
        have ne_la_br : la ≠ br := km_apF ((km_n ne_la_q63).trans ((km_n (km_apA fl fx)).trans ((km_n ne_la_w1).trans ((km_n ne_la_q52).trans fl)))) hwo2
        have ne_q52_br : q52 ≠ br := km_apF ((km_n ne_q52_q63).trans ((km_n (Ne.symm ne_xa_q52)).trans ((km_n ne_q52_w1).trans (km_s _ _ _)))) hwo2
        have ne_w1_br : w1 ≠ br := km_apF ((km_n ne_w1_q63).trans ((km_n (Ne.symm ne_xa_w1)).trans (km_s _ _ _))) hwo2
        have ne_q63_br : q63 ≠ br := km_apF (km_s _ _ _) hwo2
        have ne_lv_br : ∀ q, q < 12 → lv q ≠ br := fun q hq9 => km_apF ((km_n (ne_lv_q63 q hq9)).trans ((km_n (km_apC (hLI.1 q (by omega)).2.1 fx (by decide))).trans ((km_n (ne_lv_w1 q hq9)).trans ((km_n (ne_lv_q52 q hq9)).trans (hLI.1 q (by omega)).2.1)))) hwo2
        have ne_lr_br : ∀ q, q < 12 → lr q ≠ br := fun q hq9 => km_apF ((km_n (ne_lr_q63 q hq9)).trans ((km_n (km_apA (hLI.1 q (by omega)).2.2 fx)).trans ((km_n (ne_lr_w1 q hq9)).trans ((km_n (ne_lr_q52 q hq9)).trans (hLI.1 q (by omega)).2.2)))) hwo2
        have ne_xa_co : xa ≠ co := km_apF ((km_n ne_xa_q63).trans (km_s _ _ _)) hwo3
        have ne_ta_co : ta ≠ co := km_apF ((km_n ne_ta_q63).trans ((km_n (km_apC ft fx (by decide))).trans ((km_n ne_ta_w1).trans ((km_n ne_ta_q52).trans ft)))) hwo3
        have ne_ba_co : ba ≠ co := km_apF ((km_n ne_ba_q63).trans ((km_n (km_apA fb fx)).trans ((km_n ne_ba_w1).trans ((km_n ne_ba_q52).trans fb)))) hwo3
        have ne_sa_co : sa ≠ co := km_apF ((km_n ne_sa_q63).trans ((km_n (km_apA fs fx)).trans ((km_n ne_sa_w1).trans ((km_n ne_sa_q52).trans fs)))) hwo3
        have ne_oa_co : oa ≠ co := km_apF ((km_n ne_oa_q63).trans ((km_n (km_apA fo fx)).trans ((km_n ne_oa_w1).trans ((km_n ne_oa_q52).trans fo)))) hwo3
        have ne_la_co : la ≠ co := km_apF ((km_n ne_la_q63).trans ((km_n (km_apA fl fx)).trans ((km_n ne_la_w1).trans ((km_n ne_la_q52).trans fl)))) hwo3
        have ne_q52_co : q52 ≠ co := km_apF ((km_n ne_q52_q63).trans ((km_n (Ne.symm ne_xa_q52)).trans ((km_n ne_q52_w1).trans (km_s _ _ _)))) hwo3
        have ne_w1_co : w1 ≠ co := km_apF ((km_n ne_w1_q63).trans ((km_n (Ne.symm ne_xa_w1)).trans (km_s _ _ _))) hwo3
        have ne_q63_co : q63 ≠ co := km_apF (km_s _ _ _) hwo3
        have ne_lv_co : ∀ q, q < 12 → lv q ≠ co := fun q hq9 => km_apF ((km_n (ne_lv_q63 q hq9)).trans ((km_n (km_apC (hLI.1 q (by omega)).2.1 fx (by decide))).trans ((km_n (ne_lv_w1 q hq9)).trans ((km_n (ne_lv_q52 q hq9)).trans (hLI.1 q (by omega)).2.1)))) hwo3
        have ne_lr_co : ∀ q, q < 12 → lr q ≠ co := fun q hq9 => km_apF ((km_n (ne_lr_q63 q hq9)).trans ((km_n (km_apA (hLI.1 q (by omega)).2.2 fx)).trans ((km_n (ne_lr_w1 q hq9)).trans ((km_n (ne_lr_q52 q hq9)).trans (hLI.1 q (by omega)).2.2)))) hwo3
        have ne_xa_er : xa ≠ er := km_apF ((km_n ne_xa_q63).trans (km_s _ _ _)) hwo4
        have ne_ta_er : ta ≠ er := km_apF ((km_n ne_ta_q63).trans ((km_n (km_apC ft fx (by decide))).trans ((km_n ne_ta_w1).trans ((km_n ne_ta_q52).trans ft)))) hwo4
        have ne_ba_er : ba ≠ er := km_apF ((km_n ne_ba_q63).trans ((km_n (km_apA fb fx)).trans ((km_n ne_ba_w1).trans ((km_n ne_ba_q52).trans fb)))) hwo4
        have ne_sa_er : sa ≠ er := km_apF ((km_n ne_sa_q63).trans ((km_n (km_apA fs fx)).trans ((km_n ne_sa_w1).trans ((km_n ne_sa_q52).trans fs)))) hwo4
        have ne_oa_er : oa ≠ er := km_apF ((km_n ne_oa_q63).trans ((km_n (km_apA fo fx)).trans ((km_n ne_oa_w1).trans ((km_n ne_oa_q52).trans fo)))) hwo4
        have ne_la_er : la ≠ er := km_apF ((km_n ne_la_q63).trans ((km_n (km_apA fl fx)).trans ((km_n ne_la_w1).trans ((km_n ne_la_q52).trans fl)))) hwo4
        have ne_q52_er : q52 ≠ er := km_apF ((km_n ne_q52_q63).trans ((km_n (Ne.symm ne_xa_q52)).trans ((km_n ne_q52_w1).trans (km_s _ _ _)))) hwo4
        have ne_w1_er : w1 ≠ er := km_apF ((km_n ne_w1_q63).trans ((km_n (Ne.symm ne_xa_w1)).trans (km_s _ _ _))) hwo4
        have ne_q63_er : q63 ≠ er := km_apF (km_s _ _ _) hwo4
        have ne_lv_er : ∀ q, q < 12 → lv q ≠ er := fun q hq9 => km_apF ((km_n (ne_lv_q63 q hq9)).trans ((km_n (km_apC (hLI.1 q (by omega)).2.1 fx (by decide))).trans ((km_n (ne_lv_w1 q hq9)).trans ((km_n (ne_lv_q52 q hq9)).trans (hLI.1 q (by omega)).2.1)))) hwo4
        have ne_lr_er : ∀ q, q < 12 → lr q ≠ er := fun q hq9 => km_apF ((km_n (ne_lr_q63 q hq9)).trans ((km_n (km_apA (hLI.1 q (by omega)).2.2 fx)).trans ((km_n (ne_lr_w1 q hq9)).trans ((km_n (ne_lr_q52 q hq9)).trans (hLI.1 q (by omega)).2.2)))) hwo4
        have hM : kS g (km_up (km_up (km_up (km_up (km_up (km_up (km_up (km_up (km_up ν q52 (.inr (2, [.ref w1, .int (nI 0)]))) w1 (.inl (g.2.2.1 2, 7, .inr (.inl (fun _ => 0))))) xa (.inr (3, [.ref ta, .ref la, .ref q52, .null, .int (nI 0)]))) q63 (.inr (0, [.null, .null, .null]))) bo (.inr (2, [.ref br, .int (nI 0)]))) br (.inl (g.2.2.1 2, 7, .inr (.inl (fun _ => 0))))) q63 (.inr (0, [.ref bo, .ref co, .ref (g.2.2.2.1 0)]))) co (.inr (2, [.ref er, .int (nI 0)]))) er (.inl (g.2.2.1 2, 7, .inr (.inl (fun _ => 0))))) s H locs := hM
        have hM : kS g (km_up (km_up (km_up (km_up (km_up (km_up (km_up (km_up ν q52 (.inr (2, [.ref w1, .int (nI 0)]))) w1 (.inl (g.2.2.1 2, 7, .inr (.inl (fun _ => 0))))) xa (.inr (3, [.ref ta, .ref la, .ref q52, .null, .int (nI 0)]))) q63 (.inr (0, [.ref bo, .ref co, .ref (g.2.2.2.1 0)]))) bo (.inr (2, [.ref br, .int (nI 0)]))) br (.inl (g.2.2.1 2, 7, .inr (.inl (fun _ => 0))))) co (.inr (2, [.ref er, .int (nI 0)]))) er (.inl (g.2.2.1 2, 7, .inr (.inl (fun _ => 0))))) s H locs := kS_eq (congrArg (fun z => km_up z er (.inl (g.2.2.1 2, 7, .inr (.inl (fun _ => 0))))) (congrArg (fun z => km_up z co (.inr (2, [.ref er, .int (nI 0)]))) (km_u3 _ _ _ _ _ ne_q63_bo ne_q63_br))) hM
        refine k_putF (own := RVR) (ref := RVR) (C := RVR) (T := TVR) (N := 5) (ci := 3) (v := .ref q63) (ty := .object "VersionRanges$RangeTest") (fs' := [.ref ta, .ref la, .ref q52, .ref q63, .int (nI 0)]) hx hb hW inVR tyVR tyokVR nmokVR hown hM ((km_n ne_xa_er).trans ((km_n ne_xa_co).trans ((km_n ne_xa_br).trans ((km_n ne_xa_bo).trans ((km_n ne_xa_q63).trans (km_s _ _ _)))))) rfl 3 (by decide) (hW _ w_97) (fun _ h => h) rfl hnm rfl (by decide +kernel) rfl rfl (Nat.le_of_ble_eq_true rfl) dVR_init_70 rfl (fun H locs hM => ?_)
        have hM : kS g (km_up (km_up (km_up (km_up (km_up (km_up (km_up (km_up ν q52 (.inr (2, [.ref w1, .int (nI 0)]))) w1 (.inl (g.2.2.1 2, 7, .inr (.inl (fun _ => 0))))) xa (.inr (3, [.ref ta, .ref la, .ref q52, .ref q63, .int (nI 0)]))) q63 (.inr (0, [.ref bo, .ref co, .ref (g.2.2.2.1 0)]))) bo (.inr (2, [.ref br, .int (nI 0)]))) br (.inl (g.2.2.1 2, 7, .inr (.inl (fun _ => 0))))) co (.inr (2, [.ref er, .int (nI 0)]))) er (.inl (g.2.2.1 2, 7, .inr (.inl (fun _ => 0))))) s H locs := kS_eq (km_u6 _ _ _ _ _ _ _ _ ne_xa_q63 ne_xa_bo ne_xa_br ne_xa_co ne_xa_er) hM
        refine lv_aload_n hx hb dVR_init_73 rfl (lv_at hl 0 rfl) ?_
        refine lv_iconst (v := nI 0) hx hb dVR_init_74 (by decide) ?_
        refine k_put (own := RVR) (ref := RVR) (C := RVR) (T := TVR) (N := 5) (ci := 3) (v := .int (nI 0)) (ty := .int) (fs' := [.ref ta, .ref la, .ref q52, .ref q63, .int (nI 0)]) hx hb hW inVR tyVR tyokVR nmokVR hown hM ((km_n ne_xa_er).trans ((km_n ne_xa_co).trans ((km_n ne_xa_br).trans ((km_n ne_xa_bo).trans ((km_n ne_xa_q63).trans (km_s _ _ _)))))) rfl 4 (by decide) (hW _ w_98) (fun _ h => h) rfl (by decide +kernel) rfl rfl (Nat.le_of_ble_eq_true rfl) dVR_init_75 rfl (fun H locs hM => ?_)
        have hM : kS g (km_up (km_up (km_up (km_up (km_up (km_up (km_up (km_up ν q52 (.inr (2, [.ref w1, .int (nI 0)]))) w1 (.inl (g.2.2.1 2, 7, .inr (.inl (fun _ => 0))))) xa (.inr (3, [.ref ta, .ref la, .ref q52, .ref q63, .int (nI 0)]))) q63 (.inr (0, [.ref bo, .ref co, .ref (g.2.2.2.1 0)]))) bo (.inr (2, [.ref br, .int (nI 0)]))) br (.inl (g.2.2.1 2, 7, .inr (.inl (fun _ => 0))))) co (.inr (2, [.ref er, .int (nI 0)]))) er (.inl (g.2.2.1 2, 7, .inr (.inl (fun _ => 0))))) s H locs := kS_eq (km_u6 _ _ _ _ _ _ _ _ ne_xa_q63 ne_xa_bo ne_xa_br ne_xa_co ne_xa_er) hM
        refine W.widen (k := 36) (n := 956) (by omega) (by omega) ?_
        exact kr_v hx hb hr hlocks hM dVR_init_78 (⟨ta, ba, sa, oa, la, q52, w1, q63, bo, br, co, er, lv, lr, ⟨fso, ne_q52_bo, ne_q52_co, (Ne.symm hm2), ne_w1_br, ne_w1_er, (Ne.symm hm5), fun q hq9 => ⟨(ne_lv_q52 q hq9), (ne_lv_bo q hq9), (ne_lv_co q hq9), (ne_lr_w1 q hq9), (ne_lr_br q hq9), (ne_lr_er q hq9)⟩, fun i j h1 h2 h3 => hLI.2 i j (by omega) (by omega) h3⟩, ⟨fun _ => (by decide : (0 : Nat) < 256), by decide, by decide, ((km_n ne_xa_er).trans ((km_n ne_xa_co).trans ((km_n ne_xa_br).trans ((km_n ne_xa_bo).trans ((km_n ne_xa_q63).trans (km_s _ _ _)))))), ⟨0, 0, _, _, ((km_n ne_ta_er).trans ((km_n ne_ta_co).trans ((km_n ne_ta_br).trans ((km_n ne_ta_bo).trans ((km_n ne_ta_q63).trans ((km_n (km_apC ft fx (by decide))).trans ((km_n ne_ta_w1).trans ((km_n ne_ta_q52).trans ft)))))))), ((km_n ne_sa_er).trans ((km_n ne_sa_co).trans ((km_n ne_sa_br).trans ((km_n ne_sa_bo).trans ((km_n ne_sa_q63).trans ((km_n (km_apA fs fx)).trans ((km_n ne_sa_w1).trans ((km_n ne_sa_q52).trans fs)))))))), ((km_n ne_oa_er).trans ((km_n ne_oa_co).trans ((km_n ne_oa_br).trans ((km_n ne_oa_bo).trans ((km_n ne_oa_q63).trans ((km_n (km_apA fo fx)).trans ((km_n ne_oa_w1).trans ((km_n ne_oa_q52).trans fo))))))))⟩, ((km_n ne_ba_er).trans ((km_n ne_ba_co).trans ((km_n ne_ba_br).trans ((km_n ne_ba_bo).trans ((km_n ne_ba_q63).trans ((km_n (km_apA fb fx)).trans ((km_n ne_ba_w1).trans ((km_n ne_ba_q52).trans fb)))))))), ⟨V, ((km_n ne_la_er).trans ((km_n ne_la_co).trans ((km_n ne_la_br).trans ((km_n ne_la_bo).trans ((km_n ne_la_q63).trans ((km_n (km_apA fl fx)).trans ((km_n ne_la_w1).trans ((km_n ne_la_q52).trans fl)))))))), fun q hq9 => (hLI.1 q (by omega)).1⟩, ⟨fun _ => 0, fun _ => fun _ => 0, fun q hq9 => ⟨((km_n (ne_lv_er q hq9)).trans ((km_n (ne_lv_co q hq9)).trans ((km_n (ne_lv_br q hq9)).trans ((km_n (ne_lv_bo q hq9)).trans ((km_n (ne_lv_q63 q hq9)).trans ((km_n (km_apC (hLI.1 q (by omega)).2.1 fx (by decide))).trans ((km_n (ne_lv_w1 q hq9)).trans ((km_n (ne_lv_q52 q hq9)).trans (hLI.1 q (by omega)).2.1)))))))), ((km_n (ne_lr_er q hq9)).trans ((km_n (ne_lr_co q hq9)).trans ((km_n (ne_lr_br q hq9)).trans ((km_n (ne_lr_bo q hq9)).trans ((km_n (ne_lr_q63 q hq9)).trans ((km_n (km_apA (hLI.1 q (by omega)).2.2 fx)).trans ((km_n (ne_lr_w1 q hq9)).trans ((km_n (ne_lr_q52 q hq9)).trans (hLI.1 q (by omega)).2.2))))))))⟩, fun q v h => by cases h⟩, ⟨0, _, ((km_n ne_q52_er).trans ((km_n ne_q52_co).trans ((km_n ne_q52_br).trans ((km_n ne_q52_bo).trans ((km_n ne_q52_q63).trans ((km_n (Ne.symm ne_xa_q52)).trans ((km_n ne_q52_w1).trans (km_s _ _ _)))))))), ((km_n ne_w1_er).trans ((km_n ne_w1_co).trans ((km_n ne_w1_br).trans ((km_n ne_w1_bo).trans ((km_n ne_w1_q63).trans ((km_n (Ne.symm ne_xa_w1)).trans (km_s _ _ _)))))))⟩, ⟨0, 0, _, 0, _, by decide, ((km_n ne_q63_er).trans ((km_n ne_q63_co).trans ((km_n ne_q63_br).trans ((km_n ne_q63_bo).trans (km_s _ _ _))))), ((km_n (Ne.symm hm4)).trans ((km_n (Ne.symm hm2)).trans ((km_n (Ne.symm hm1)).trans (km_s _ _ _)))), ((km_n (Ne.symm hm5)).trans ((km_n (Ne.symm hm3)).trans (km_s _ _ _))), ((km_n (Ne.symm hm6)).trans (km_s _ _ _)), (km_s _ _ _)⟩⟩⟩)
      · have h29 := (nJ_ge_f (a := k) (b := 12) (by omega) (by omega)).mp h29
        refine lv_aload_n hx hb dVR_init_32 rfl (lv_at hl 0 rfl) ?_
        refine k_get (own := RVR) (ref := RVR) (C := RVR) (T := TVR) (N := 5) (ci := 3) (v := .ref la) hx hb hW inVR hown hM fx rfl 1 (by decide) (hW _ w_95) (fun _ h => h) rfl dVR_init_33 ?_
        refine lv_iload_n hx hb dVR_init_36 rfl (lv_at hl 1 rfl) ?_
        refine k_new (own := RVR) (C := RVE) (T := TVE) (N := 2) (ci := 2) (fs := [.null, .int (nI 0)]) hx hb hW inVE tyVE tyokVE hown (hW _ w_58) (hW _ w_60) (hW _ w_3) hM rfl (fun j hj => by rcases (show j = 0 ∨ j = 1 by omega) with rfl | rfl <;> rfl) (show (5 + 2 * k) + 1 ≤ 36 by omega) (show (818 + 9 * k) + 2 ≤ 956 by omega) dVR_init_37 (fun q37 H hnq37 hM => ?_)
        have ne_xa_q37 : xa ≠ q37 := km_apF fx hnq37
        have ne_ta_q37 : ta ≠ q37 := km_apF ft hnq37
        have ne_ba_q37 : ba ≠ q37 := km_apF fb hnq37
        have ne_sa_q37 : sa ≠ q37 := km_apF fs hnq37
        have ne_oa_q37 : oa ≠ q37 := km_apF fo hnq37
        have ne_la_q37 : la ≠ q37 := km_apF fl hnq37
        have hM : kS g (km_up ν q37 (.inr (2, [.null, .int (nI 0)]))) s H locs := hM
        refine W.widen (k := (5 + 2 * k) + 1) (n := (818 + 9 * k) + 2) (by omega) (by omega) ?_
        refine lv_dup hx hb dVR_init_40 rfl ?_
        refine kc_v (va_runIN (As := []) (b := q37) (rest := [.ref q37, .int (nI k), .ref la]) (Ts := Wd) ⟨hx, hb, hml, hown, hW⟩ (mVE_init l g (km_up ν q37 (.inr (2, [.null, .int (nI 0)]))) (km_s _ _ _)) ⟨(va_cnB 0 hW (k_gC w_63) rfl rfl rfl (hM.2.1.2.1 _ n_61) (hW _ w_3) (by decide +kernel) ⟨Nat.le_of_ble_eq_true rfl, Nat.le_of_ble_eq_true rfl⟩), rfl, hW _ w_62⟩ (k_preS hM) rfl rfl hl.1 rfl (lv_room (Nat.le_of_ble_eq_true rfl)) dVR_init_41 ⟨(show ((5 + 2 * k) + 1) + 1 ≤ 36 by omega), (show ((818 + 9 * k) + 2) + 7 ≤ 956 by omega)⟩) hM (fun μ1 H locs hp hM => ?_)
        obtain ⟨w2, hw2, hmu⟩ := hp
        subst hmu
        refine W.widen (k := (5 + 2 * k) + 2) (n := (818 + 9 * k) + 9) (by omega) (by omega) ?_
        have ne_xa_w2 : xa ≠ w2 := km_apF ((km_n ne_xa_q37).trans fx) hw2
        have ne_ta_w2 : ta ≠ w2 := km_apF ((km_n ne_ta_q37).trans ft) hw2
        have ne_ba_w2 : ba ≠ w2 := km_apF ((km_n ne_ba_q37).trans fb) hw2
        have ne_sa_w2 : sa ≠ w2 := km_apF ((km_n ne_sa_q37).trans fs) hw2
        have ne_oa_w2 : oa ≠ w2 := km_apF ((km_n ne_oa_q37).trans fo) hw2
        have ne_la_w2 : la ≠ w2 := km_apF ((km_n ne_la_q37).trans fl) hw2
        have ne_q37_w2 : q37 ≠ w2 := km_apF (km_s _ _ _) hw2
        have hM : kS g (km_up (km_up (km_up ν q37 (.inr (2, [.null, .int (nI 0)]))) w2 (.inl (g.2.2.1 2, 7, .inr (.inl (fun _ => 0))))) q37 (.inr (2, [.ref w2, .int (nI 0)]))) s H locs := hM
        have hM : kS g (km_up (km_up ν q37 (.inr (2, [.ref w2, .int (nI 0)]))) w2 (.inl (g.2.2.1 2, 7, .inr (.inl (fun _ => 0))))) s H locs := kS_eq (km_u2 _ _ _ _ ne_q37_w2) hM
        refine k_aast (i := k) (f1 := va_up V k (some q37)) hx hb hM 4 2 ((km_n ne_la_w2).trans ((km_n ne_la_q37).trans fl)) rfl ((km_n ne_q37_w2).trans (km_s _ _ _)) rfl (by omega) (by omega) rfl dVR_init_44 (fun H locs hM => ?_)
        have hM : kS g (km_up (km_up (km_up ν q37 (.inr (2, [.ref w2, .int (nI 0)]))) w2 (.inl (g.2.2.1 2, 7, .inr (.inl (fun _ => 0))))) la (.inl (g.2.2.1 4, 12, .inr (.inr (.inr (.inr (va_up V k (some q37)))))))) s H locs := hM
        refine lv_iinc (v := nI (k + 1)) (lv' := [(1, .int (nI (k + 1))), (0, .ref xa)]) (k := 1) hx hb dVR_init_45 hl rfl (ii1 k) (by decide) rfl (fun ls hl => ?_)
        refine lv_goto (tgt := 26) hx hb dVR_init_48 (by decide) ?_
        refine W.widen (k := 5 + 2 * (k + 1)) (n := 818 + 9 * (k + 1)) (by omega) (by omega) ?_
        exact ih (k + 1) (km_up (km_up (km_up ν q37 (.inr (2, [.ref w2, .int (nI 0)]))) w2 (.inl (g.2.2.1 2, 7, .inr (.inl (fun _ => 0))))) la (.inl (g.2.2.1 4, 12, .inr (.inr (.inr (.inr (va_up V k (some q37)))))))) (va_up V k (some q37)) (va_up lv k q37) (va_up lr k w2) ta ba sa oa la (by omega) (by first | assumption | omega | exact rfl) (by exact ((km_n (km_apB fx fl)).trans ((km_n ne_xa_w2).trans ((km_n ne_xa_q37).trans fx)))) (by exact ((km_n (km_apB ft fl)).trans ((km_n ne_ta_w2).trans ((km_n ne_ta_q37).trans ft)))) (by exact ((km_n (km_apN fb fl (by decide))).trans ((km_n ne_ba_w2).trans ((km_n ne_ba_q37).trans fb)))) (by exact ((km_n (km_apN fs fl (by decide))).trans ((km_n ne_sa_w2).trans ((km_n ne_sa_q37).trans fs)))) (by exact ((km_n (km_apN fo fl (by decide))).trans ((km_n ne_oa_w2).trans ((km_n ne_oa_q37).trans fo)))) (by exact fso) (by exact (km_s _ _ _)) (by exact LI0_step hLI fl hnq37 hw2) ls H locs (lv_sub hl [1, 0] rfl) hM
  refine lv_aload_n hx hb dVR_init_0 rfl (lv_at hl 0 rfl) ?_
  refine W.objInit hx hb hown (hW _ w_25) (hW _ w_26) (hW _ w_27) rfl (by rw [hml]; exact hl.1) rfl dVR_init_1 (Nat.le_of_ble_eq_true rfl) (Nat.le_of_ble_eq_true rfl) ?_
  refine W.eq (g2 := F0 m 4 ls []) rfl ?_
  refine lv_aload_n hx hb dVR_init_4 rfl (lv_at hl 0 rfl) ?_
  refine k_new (own := RVR) (C := RTP) (T := TTP) (N := 6) (ci := 1) (fs := [.null, .null, .null, .int (nI 0), .int (nI 0), .int (nI 0)]) hx hb hW inTP tyTP tyokTP hown (hW _ w_28) (hW _ w_29) (hW _ w_2) hM rfl (fun j hj => by rcases (show j = 0 ∨ j = 1 ∨ j = 2 ∨ j = 3 ∨ j = 4 ∨ j = 5 by omega) with rfl | rfl | rfl | rfl | rfl | rfl <;> rfl) (show 0 + 1 ≤ 36 by omega) (show 0 + 6 ≤ 956 by omega) dVR_init_5 (fun q5 H hnq5 hM => ?_)
  have ne_xa_q5 : xa ≠ q5 := km_apF hxa hnq5
  have hM : kS g (km_up μ q5 (.inr (1, [.null, .null, .null, .int (nI 0), .int (nI 0), .int (nI 0)]))) s H locs := hM
  refine W.widen (k := 1) (n := 6) (by omega) (by omega) ?_
  refine lv_dup hx hb dVR_init_8 rfl ?_
  refine kc_v (va_runIN (As := []) (b := q5) (rest := [.ref q5, .ref xa]) (Ts := Wd) ⟨hx, hb, hml, hown, hW⟩ (mTP_init l g (km_up μ q5 (.inr (1, [.null, .null, .null, .int (nI 0), .int (nI 0), .int (nI 0)]))) (km_s _ _ _)) ⟨(va_cnB 0 hW (k_gC w_32) rfl rfl rfl (hM.2.1.2.1 _ n_30) (hW _ w_2) (by decide +kernel) ⟨Nat.le_of_ble_eq_true rfl, Nat.le_of_ble_eq_true rfl⟩), rfl, hW _ w_31⟩ (k_preS hM) rfl rfl hl.1 rfl (lv_room (Nat.le_of_ble_eq_true rfl)) dVR_init_9 ⟨(show 1 + 3 ≤ 36 by omega), (show 6 + 800 ≤ 956 by omega)⟩) hM (fun μ1 H locs hp hM => ?_)
  obtain ⟨ba, sa, oa, hwb, hws, hwo, hn1, hn2, hn3, hmu⟩ := hp
  subst hmu
  refine W.widen (k := 4) (n := 806) (by omega) (by omega) ?_
  have ne_xa_ba : xa ≠ ba := km_apF ((km_n ne_xa_q5).trans hxa) hwb
  have ne_q5_ba : q5 ≠ ba := km_apF (km_s _ _ _) hwb
  have ne_xa_sa : xa ≠ sa := km_apF ((km_n ne_xa_q5).trans hxa) hws
  have ne_q5_sa : q5 ≠ sa := km_apF (km_s _ _ _) hws
  have ne_xa_oa : xa ≠ oa := km_apF ((km_n ne_xa_q5).trans hxa) hwo
  have ne_q5_oa : q5 ≠ oa := km_apF (km_s _ _ _) hwo
  have hM : kS g (km_up (km_up (km_up (km_up (km_up μ q5 (.inr (1, [.null, .null, .null, .int (nI 0), .int (nI 0), .int (nI 0)]))) ba (.inl (g.2.2.1 0, 400, .inl (fun j => sb ((fun _ => 0) j))))) q5 (.inr (1, [.ref ba, .ref sa, .ref oa, .int (nI 0), .int (nI 0), .int (nI 0)]))) sa (.inl (g.2.2.1 1, 200, .inl (fun j => nI ((fun _ => 0) j))))) oa (.inl (g.2.2.1 1, 200, .inl (fun j => nI ((fun _ => 0) j))))) s H locs := hM
  have hM : kS g (km_up (km_up (km_up (km_up μ q5 (.inr (1, [.ref ba, .ref sa, .ref oa, .int (nI 0), .int (nI 0), .int (nI 0)]))) ba (.inl (g.2.2.1 0, 400, .inl (fun j => sb ((fun _ => 0) j))))) sa (.inl (g.2.2.1 1, 200, .inl (fun j => nI ((fun _ => 0) j))))) oa (.inl (g.2.2.1 1, 200, .inl (fun j => nI ((fun _ => 0) j))))) s H locs := kS_eq (congrArg (fun z => km_up z oa (.inl (g.2.2.1 1, 200, .inl (fun j => nI ((fun _ => 0) j))))) (congrArg (fun z => km_up z sa (.inl (g.2.2.1 1, 200, .inl (fun j => nI ((fun _ => 0) j))))) (km_u2 _ _ _ _ ne_q5_ba))) hM
  refine k_putF (own := RVR) (ref := RVR) (C := RVR) (T := TVR) (N := 5) (ci := 3) (v := .ref q5) (ty := .object "VersionRanges$Tape") (fs' := [.ref q5, .null, .null, .null, .int (nI 0)]) hx hb hW inVR tyVR tyokVR nmokVR hown hM ((km_n ne_xa_oa).trans ((km_n ne_xa_sa).trans ((km_n ne_xa_ba).trans ((km_n ne_xa_q5).trans hxa)))) rfl 0 (by decide) (hW _ w_94) (fun _ h => h) rfl hnm rfl (by decide +kernel) rfl rfl (Nat.le_of_ble_eq_true rfl) dVR_init_12 rfl (fun H locs hM => ?_)
  have hM : kS g (km_up (km_up (km_up (km_up (km_up μ q5 (.inr (1, [.ref ba, .ref sa, .ref oa, .int (nI 0), .int (nI 0), .int (nI 0)]))) ba (.inl (g.2.2.1 0, 400, .inl (fun j => sb ((fun _ => 0) j))))) sa (.inl (g.2.2.1 1, 200, .inl (fun j => nI ((fun _ => 0) j))))) oa (.inl (g.2.2.1 1, 200, .inl (fun j => nI ((fun _ => 0) j))))) xa (.inr (3, [.ref q5, .null, .null, .null, .int (nI 0)]))) s H locs := hM
  refine lv_aload_n hx hb dVR_init_15 rfl (lv_at hl 0 rfl) ?_
  refine lv_bipush (v := nI 12) hx hb dVR_init_16 (by decide) ?_
  refine k_newq (own := RVR) (C := RVE) (N' := 12) hx hb hown (hW _ w_58) (hM.2.1.2.2.2.2.2.2.2 _ (by decide)) hM 4 rfl (by omega) (show 4 + 1 ≤ 36 by omega) (show 806 + 12 ≤ 956 by omega) dVR_init_18 (fun q18 H hnq18 hM => ?_)
  have ne_xa_q18 : xa ≠ q18 := km_apF (km_s _ _ _) hnq18
  have ne_q5_q18 : q5 ≠ q18 := km_apF ((km_n (Ne.symm ne_xa_q5)).trans ((km_n ne_q5_oa).trans ((km_n ne_q5_sa).trans ((km_n ne_q5_ba).trans (km_s _ _ _))))) hnq18
  have ne_ba_q18 : ba ≠ q18 := km_apF ((km_n (Ne.symm ne_xa_ba)).trans ((km_n (Ne.symm hn2)).trans ((km_n (Ne.symm hn1)).trans (km_s _ _ _)))) hnq18
  have ne_sa_q18 : sa ≠ q18 := km_apF ((km_n (Ne.symm ne_xa_sa)).trans ((km_n (Ne.symm hn3)).trans (km_s _ _ _))) hnq18
  have ne_oa_q18 : oa ≠ q18 := km_apF ((km_n (Ne.symm ne_xa_oa)).trans (km_s _ _ _)) hnq18
  have hM : kS g (km_up (km_up (km_up (km_up (km_up (km_up μ q5 (.inr (1, [.ref ba, .ref sa, .ref oa, .int (nI 0), .int (nI 0), .int (nI 0)]))) ba (.inl (g.2.2.1 0, 400, .inl (fun j => sb ((fun _ => 0) j))))) sa (.inl (g.2.2.1 1, 200, .inl (fun j => nI ((fun _ => 0) j))))) oa (.inl (g.2.2.1 1, 200, .inl (fun j => nI ((fun _ => 0) j))))) xa (.inr (3, [.ref q5, .null, .null, .null, .int (nI 0)]))) q18 (.inl (g.2.2.1 4, 12, .inr (.inr (.inr (.inr (fun _ => none))))))) s H locs := hM
  refine W.widen (k := 5) (n := 818) (by omega) (by omega) ?_
  refine k_putF (own := RVR) (ref := RVR) (C := RVR) (T := TVR) (N := 5) (ci := 3) (v := .ref q18) (ty := .array (.object "VersionRanges$Version")) (fs' := [.ref q5, .ref q18, .null, .null, .int (nI 0)]) hx hb hW inVR tyVR tyokVR nmokVR hown hM ((km_n ne_xa_q18).trans (km_s _ _ _)) rfl 1 (by decide) (hW _ w_95) (fun _ h => h) rfl hnm rfl (by decide +kernel) rfl rfl (Nat.le_of_ble_eq_true rfl) dVR_init_21 rfl (fun H locs hM => ?_)
  have hM : kS g (km_up (km_up (km_up (km_up (km_up (km_up μ q5 (.inr (1, [.ref ba, .ref sa, .ref oa, .int (nI 0), .int (nI 0), .int (nI 0)]))) ba (.inl (g.2.2.1 0, 400, .inl (fun j => sb ((fun _ => 0) j))))) sa (.inl (g.2.2.1 1, 200, .inl (fun j => nI ((fun _ => 0) j))))) oa (.inl (g.2.2.1 1, 200, .inl (fun j => nI ((fun _ => 0) j))))) xa (.inr (3, [.ref q5, .ref q18, .null, .null, .int (nI 0)]))) q18 (.inl (g.2.2.1 4, 12, .inr (.inr (.inr (.inr (fun _ => none))))))) s H locs := kS_eq (km_u2 _ _ _ _ ne_xa_q18) hM
  refine lv_iconst (v := nI 0) hx hb dVR_init_24 (by decide) ?_
  refine lv_istore_n (lv' := [(1, .int (nI 0)), (0, .ref xa)]) hx hb dVR_init_25 rfl hl (by decide) rfl (fun ls hl => ?_)
  refine W.widen (k := 5 + 2 * 0) (n := 818 + 9 * 0) (by omega) (by omega) ?_
  exact cut26 _ 0 (km_up (km_up (km_up (km_up (km_up (km_up μ q5 (.inr (1, [.ref ba, .ref sa, .ref oa, .int (nI 0), .int (nI 0), .int (nI 0)]))) ba (.inl (g.2.2.1 0, 400, .inl (fun j => sb ((fun _ => 0) j))))) sa (.inl (g.2.2.1 1, 200, .inl (fun j => nI ((fun _ => 0) j))))) oa (.inl (g.2.2.1 1, 200, .inl (fun j => nI ((fun _ => 0) j))))) xa (.inr (3, [.ref q5, .ref q18, .null, .null, .int (nI 0)]))) q18 (.inl (g.2.2.1 4, 12, .inr (.inr (.inr (.inr (fun _ => none))))))) (fun _ => none) (fun _ => 0) (fun _ => 0) q5 ba sa oa q18 (Nat.lt_succ_self _) (by first | assumption | omega | exact rfl) (by exact ((km_n ne_xa_q18).trans (km_s _ _ _))) (by exact ((km_n ne_q5_q18).trans ((km_n (Ne.symm ne_xa_q5)).trans ((km_n ne_q5_oa).trans ((km_n ne_q5_sa).trans ((km_n ne_q5_ba).trans (km_s _ _ _))))))) (by exact ((km_n ne_ba_q18).trans ((km_n (Ne.symm ne_xa_ba)).trans ((km_n (Ne.symm hn2)).trans ((km_n (Ne.symm hn1)).trans (km_s _ _ _)))))) (by exact ((km_n ne_sa_q18).trans ((km_n (Ne.symm ne_xa_sa)).trans ((km_n (Ne.symm hn3)).trans (km_s _ _ _))))) (by exact ((km_n ne_oa_q18).trans ((km_n (Ne.symm ne_xa_oa)).trans (km_s _ _ _)))) (by exact Ne.symm hn3) (by exact (km_s _ _ _)) (by exact LI0_0) ls H locs (lv_sub hl [1, 0] rfl) hM
end
section
-- chars and bytes
theorem sb_255 : ∀ n, n < 256 → sb n &&& nI 255 = nI n := by decide +kernel
theorem nI_c {n : Nat} (h : n < 65536) : ((nI n).toUInt32 % 65536).toInt32 = nI n := by
  rw [pk_char, pk_tn (by omega), Nat.mod_eq_of_lt h]
theorem shr_0 {n : Nat} (h : n < 2 ^ 31) : nI n >>> (nI 0 &&& 31) = nI n := by
  rw [pk_shrN h (nI 0 &&& 31) 0 (by decide), Nat.pow_zero, Nat.div_one]
theorem or_lt {a b : Nat} (ha : a < 2 ^ 30) (hb : b < 2 ^ 30) : a ||| b < 2 ^ 30 := Nat.or_lt_two_pow ha hb
theorem or_nI {a b : Nat} (ha : a < 2 ^ 30) (hb : b < 2 ^ 30) : nI a ||| nI b = nI (a ||| b) := by
  apply Int32.toBitVec_inj.mp
  apply BitVec.eq_of_toNat_eq
  have h := or_lt ha hb
  rw [Int32.toBitVec_or, BitVec.toNat_or, pk_tn (by omega), pk_tn (by omega), pk_tn (by omega)]
theorem dST_init_0 : decode cST_init 0 = .ok (.aload_n 0, 1) := by decide +kernel
theorem dST_init_1 : decode cST_init 1 = .ok (.aload_n 1, 1) := by decide +kernel
theorem dST_init_2 : decode cST_init 2 = .ok (.iload_n 2, 1) := by decide +kernel
theorem dST_init_3 : decode cST_init 3 = .ok (.iload_n 3, 1) := by decide +kernel
theorem dST_init_4 : decode cST_init 4 = .ok (.aload_n 1, 1) := by decide +kernel
theorem dST_init_5 : decode cST_init 5 = .ok (.iload_n 2, 1) := by decide +kernel
theorem dST_init_6 : decode cST_init 6 = .ok (.iload_n 3, 1) := by decide +kernel
theorem dST_init_7 : decode cST_init 7 = .ok (.invokestatic 30, 3) := by decide +kernel
theorem dST_init_10 : decode cST_init 10 = .ok (.invokespecial 27, 3) := by decide +kernel
theorem dST_init_13 : decode cST_init 13 = .ok (.return_, 1) := by decide +kernel
theorem dST_rangeCheck_0 : decode cST_rangeCheck 0 = .ok (.iload_n 1, 1) := by decide +kernel
theorem dST_rangeCheck_1 : decode cST_rangeCheck 1 = .ok (.iload_n 2, 1) := by decide +kernel
theorem dST_rangeCheck_2 : decode cST_rangeCheck 2 = .ok (.aload_n 0, 1) := by decide +kernel
theorem dST_rangeCheck_3 : decode cST_rangeCheck 3 = .ok (.arraylength, 1) := by decide +kernel
theorem dST_rangeCheck_4 : decode cST_rangeCheck 4 = .ok (.invokestatic 34, 3) := by decide +kernel
theorem dST_rangeCheck_7 : decode cST_rangeCheck 7 = .ok (.pop, 1) := by decide +kernel
theorem dST_rangeCheck_8 : decode cST_rangeCheck 8 = .ok (.aconst_null, 1) := by decide +kernel
theorem dST_rangeCheck_9 : decode cST_rangeCheck 9 = .ok (.areturn, 1) := by decide +kernel
theorem dST_checkBoundsOffCount_0 : decode cST_checkBoundsOffCount 0 = .ok (.iload_n 0, 1) := by decide +kernel
theorem dST_checkBoundsOffCount_1 : decode cST_checkBoundsOffCount 1 = .ok (.iload_n 1, 1) := by decide +kernel
theorem dST_checkBoundsOffCount_2 : decode cST_checkBoundsOffCount 2 = .ok (.iload_n 2, 1) := by decide +kernel
theorem dST_checkBoundsOffCount_3 : decode cST_checkBoundsOffCount 3 = .ok (.getstatic 1053, 3) := by decide +kernel
theorem dST_checkBoundsOffCount_6 : decode cST_checkBoundsOffCount 6 = .ok (.invokestatic 1065, 3) := by decide +kernel
theorem dST_checkBoundsOffCount_9 : decode cST_checkBoundsOffCount 9 = .ok (.ireturn, 1) := by decide +kernel
theorem dPC_checkFromIndexSize_0 : decode cPC_checkFromIndexSize 0 = .ok (.iload_n 2, 1) := by decide +kernel
theorem dPC_checkFromIndexSize_1 : decode cPC_checkFromIndexSize 1 = .ok (.iload_n 0, 1) := by decide +kernel
theorem dPC_checkFromIndexSize_2 : decode cPC_checkFromIndexSize 2 = .ok (.ior, 1) := by decide +kernel
theorem dPC_checkFromIndexSize_3 : decode cPC_checkFromIndexSize 3 = .ok (.iload_n 1, 1) := by decide +kernel
theorem dPC_checkFromIndexSize_4 : decode cPC_checkFromIndexSize 4 = .ok (.ior, 1) := by decide +kernel
theorem dPC_checkFromIndexSize_5 : decode cPC_checkFromIndexSize 5 = .ok (.ifCond .lt 10, 3) := by decide +kernel
theorem dPC_checkFromIndexSize_8 : decode cPC_checkFromIndexSize 8 = .ok (.iload_n 1, 1) := by decide +kernel
theorem dPC_checkFromIndexSize_9 : decode cPC_checkFromIndexSize 9 = .ok (.iload_n 2, 1) := by decide +kernel
theorem dPC_checkFromIndexSize_10 : decode cPC_checkFromIndexSize 10 = .ok (.iload_n 0, 1) := by decide +kernel
theorem dPC_checkFromIndexSize_11 : decode cPC_checkFromIndexSize 11 = .ok (.isub, 1) := by decide +kernel
theorem dPC_checkFromIndexSize_12 : decode cPC_checkFromIndexSize 12 = .ok (.if_icmp .le 11, 3) := by decide +kernel
theorem dPC_checkFromIndexSize_15 : decode cPC_checkFromIndexSize 15 = .ok (.aload_n 3, 1) := by decide +kernel
theorem dPC_checkFromIndexSize_16 : decode cPC_checkFromIndexSize 16 = .ok (.iload_n 0, 1) := by decide +kernel
theorem dPC_checkFromIndexSize_17 : decode cPC_checkFromIndexSize 17 = .ok (.iload_n 1, 1) := by decide +kernel
theorem dPC_checkFromIndexSize_18 : decode cPC_checkFromIndexSize 18 = .ok (.iload_n 2, 1) := by decide +kernel
theorem dPC_checkFromIndexSize_19 : decode cPC_checkFromIndexSize 19 = .ok (.invokestatic 103, 3) := by decide +kernel
theorem dPC_checkFromIndexSize_22 : decode cPC_checkFromIndexSize 22 = .ok (.athrow, 1) := by decide +kernel
theorem dPC_checkFromIndexSize_23 : decode cPC_checkFromIndexSize 23 = .ok (.iload_n 0, 1) := by decide +kernel
theorem dPC_checkFromIndexSize_24 : decode cPC_checkFromIndexSize 24 = .ok (.ireturn, 1) := by decide +kernel
theorem dST_init2_0 : decode cST_init2 0 = .ok (.aload_n 0, 1) := by decide +kernel
theorem dST_init2_1 : decode cST_init2 1 = .ok (.invokespecial 1, 3) := by decide +kernel
theorem dST_init2_4 : decode cST_init2 4 = .ok (.iload_n 3, 1) := by decide +kernel
theorem dST_init2_5 : decode cST_init2 5 = .ok (.ifCond .ne 22, 3) := by decide +kernel
theorem dST_init2_8 : decode cST_init2 8 = .ok (.aload_n 0, 1) := by decide +kernel
theorem dST_init2_9 : decode cST_init2 9 = .ok (.ldc 7, 2) := by decide +kernel
theorem dST_init2_11 : decode cST_init2 11 = .ok (.getfield 9, 3) := by decide +kernel
theorem dST_init2_14 : decode cST_init2 14 = .ok (.putfield 9, 3) := by decide +kernel
theorem dST_init2_17 : decode cST_init2 17 = .ok (.aload_n 0, 1) := by decide +kernel
theorem dST_init2_18 : decode cST_init2 18 = .ok (.ldc 7, 2) := by decide +kernel
theorem dST_init2_20 : decode cST_init2 20 = .ok (.getfield 15, 3) := by decide +kernel
theorem dST_init2_23 : decode cST_init2 23 = .ok (.putfield 15, 3) := by decide +kernel
theorem dST_init2_26 : decode cST_init2 26 = .ok (.return_, 1) := by decide +kernel
theorem dST_init2_27 : decode cST_init2 27 = .ok (.getstatic 38, 3) := by decide +kernel
theorem dST_init2_30 : decode cST_init2 30 = .ok (.ifCond .eq 28, 3) := by decide +kernel
theorem dST_init2_33 : decode cST_init2 33 = .ok (.aload_n 1, 1) := by decide +kernel
theorem dST_init2_34 : decode cST_init2 34 = .ok (.iload_n 2, 1) := by decide +kernel
theorem dST_init2_35 : decode cST_init2 35 = .ok (.iload_n 3, 1) := by decide +kernel
theorem dST_init2_36 : decode cST_init2 36 = .ok (.invokestatic 177, 3) := by decide +kernel
theorem dST_init2_39 : decode cST_init2 39 = .ok (.astore 5, 2) := by decide +kernel
theorem dST_init2_41 : decode cST_init2 41 = .ok (.aload_n 0, 1) := by decide +kernel
theorem dST_init2_42 : decode cST_init2 42 = .ok (.aload 5, 2) := by decide +kernel
theorem dST_init2_44 : decode cST_init2 44 = .ok (.iload_n 3, 1) := by decide +kernel
theorem dST_init2_45 : decode cST_init2 45 = .ok (.invokestatic 47, 3) := by decide +kernel
theorem dST_init2_48 : decode cST_init2 48 = .ok (.putfield 15, 3) := by decide +kernel
theorem dST_init2_51 : decode cST_init2 51 = .ok (.aload_n 0, 1) := by decide +kernel
theorem dST_init2_52 : decode cST_init2 52 = .ok (.aload 5, 2) := by decide +kernel
theorem dST_init2_54 : decode cST_init2 54 = .ok (.putfield 9, 3) := by decide +kernel
theorem dST_init2_57 : decode cST_init2 57 = .ok (.return_, 1) := by decide +kernel
theorem dST_init2_58 : decode cST_init2 58 = .ok (.aload_n 0, 1) := by decide +kernel
theorem dST_init2_59 : decode cST_init2 59 = .ok (.iconst 1, 1) := by decide +kernel
theorem dST_init2_60 : decode cST_init2 60 = .ok (.putfield 15, 3) := by decide +kernel
theorem dST_init2_63 : decode cST_init2 63 = .ok (.aload_n 0, 1) := by decide +kernel
theorem dST_init2_64 : decode cST_init2 64 = .ok (.aload_n 1, 1) := by decide +kernel
theorem dST_init2_65 : decode cST_init2 65 = .ok (.iload_n 2, 1) := by decide +kernel
theorem dST_init2_66 : decode cST_init2 66 = .ok (.iload_n 3, 1) := by decide +kernel
theorem dST_init2_67 : decode cST_init2 67 = .ok (.invokestatic 180, 3) := by decide +kernel
theorem dST_init2_70 : decode cST_init2 70 = .ok (.putfield 9, 3) := by decide +kernel
theorem dST_init2_73 : decode cST_init2 73 = .ok (.return_, 1) := by decide +kernel
theorem dST_length_0 : decode cST_length 0 = .ok (.aload_n 0, 1) := by decide +kernel
theorem dST_length_1 : decode cST_length 1 = .ok (.getfield 9, 3) := by decide +kernel
theorem dST_length_4 : decode cST_length 4 = .ok (.arraylength, 1) := by decide +kernel
theorem dST_length_5 : decode cST_length 5 = .ok (.aload_n 0, 1) := by decide +kernel
theorem dST_length_6 : decode cST_length 6 = .ok (.invokevirtual 335, 3) := by decide +kernel
theorem dST_length_9 : decode cST_length 9 = .ok (.ishr, 1) := by decide +kernel
theorem dST_length_10 : decode cST_length 10 = .ok (.ireturn, 1) := by decide +kernel
theorem dST_coder_0 : decode cST_coder 0 = .ok (.getstatic 38, 3) := by decide +kernel
theorem dST_coder_3 : decode cST_coder 3 = .ok (.ifCond .eq 10, 3) := by decide +kernel
theorem dST_coder_6 : decode cST_coder 6 = .ok (.aload_n 0, 1) := by decide +kernel
theorem dST_coder_7 : decode cST_coder 7 = .ok (.getfield 15, 3) := by decide +kernel
theorem dST_coder_10 : decode cST_coder 10 = .ok (.goto 4, 3) := by decide +kernel
theorem dST_coder_13 : decode cST_coder 13 = .ok (.iconst 1, 1) := by decide +kernel
theorem dST_coder_14 : decode cST_coder 14 = .ok (.ireturn, 1) := by decide +kernel
theorem dST_charAt_0 : decode cST_charAt 0 = .ok (.aload_n 0, 1) := by decide +kernel
theorem dST_charAt_1 : decode cST_charAt 1 = .ok (.invokevirtual 492, 3) := by decide +kernel
theorem dST_charAt_4 : decode cST_charAt 4 = .ok (.ifCond .eq 12, 3) := by decide +kernel
theorem dST_charAt_7 : decode cST_charAt 7 = .ok (.aload_n 0, 1) := by decide +kernel
theorem dST_charAt_8 : decode cST_charAt 8 = .ok (.getfield 9, 3) := by decide +kernel
theorem dST_charAt_11 : decode cST_charAt 11 = .ok (.iload_n 1, 1) := by decide +kernel
theorem dST_charAt_12 : decode cST_charAt 12 = .ok (.invokestatic 495, 3) := by decide +kernel
theorem dST_charAt_15 : decode cST_charAt 15 = .ok (.ireturn, 1) := by decide +kernel
theorem dST_charAt_16 : decode cST_charAt 16 = .ok (.aload_n 0, 1) := by decide +kernel
theorem dST_charAt_17 : decode cST_charAt 17 = .ok (.getfield 9, 3) := by decide +kernel
theorem dST_charAt_20 : decode cST_charAt 20 = .ok (.iload_n 1, 1) := by decide +kernel
theorem dST_charAt_21 : decode cST_charAt 21 = .ok (.invokestatic 498, 3) := by decide +kernel
theorem dST_charAt_24 : decode cST_charAt 24 = .ok (.ireturn, 1) := by decide +kernel
theorem dST_isLatin1_0 : decode cST_isLatin1 0 = .ok (.getstatic 38, 3) := by decide +kernel
theorem dST_isLatin1_3 : decode cST_isLatin1 3 = .ok (.ifCond .eq 14, 3) := by decide +kernel
theorem dST_isLatin1_6 : decode cST_isLatin1 6 = .ok (.aload_n 0, 1) := by decide +kernel
theorem dST_isLatin1_7 : decode cST_isLatin1 7 = .ok (.getfield 15, 3) := by decide +kernel
theorem dST_isLatin1_10 : decode cST_isLatin1 10 = .ok (.ifCond .ne 7, 3) := by decide +kernel
theorem dST_isLatin1_13 : decode cST_isLatin1 13 = .ok (.iconst 1, 1) := by decide +kernel
theorem dST_isLatin1_14 : decode cST_isLatin1 14 = .ok (.goto 4, 3) := by decide +kernel
theorem dST_isLatin1_17 : decode cST_isLatin1 17 = .ok (.iconst 0, 1) := by decide +kernel
theorem dST_isLatin1_18 : decode cST_isLatin1 18 = .ok (.ireturn, 1) := by decide +kernel
theorem dSL_charAt_0 : decode cSL_charAt 0 = .ok (.iload_n 1, 1) := by decide +kernel
theorem dSL_charAt_1 : decode cSL_charAt 1 = .ok (.aload_n 0, 1) := by decide +kernel
theorem dSL_charAt_2 : decode cSL_charAt 2 = .ok (.arraylength, 1) := by decide +kernel
theorem dSL_charAt_3 : decode cSL_charAt 3 = .ok (.invokestatic 9, 3) := by decide +kernel
theorem dSL_charAt_6 : decode cSL_charAt 6 = .ok (.aload_n 0, 1) := by decide +kernel
theorem dSL_charAt_7 : decode cSL_charAt 7 = .ok (.iload_n 1, 1) := by decide +kernel
theorem dSL_charAt_8 : decode cSL_charAt 8 = .ok (.baload, 1) := by decide +kernel
theorem dSL_charAt_9 : decode cSL_charAt 9 = .ok (.sipush 255, 3) := by decide +kernel
theorem dSL_charAt_12 : decode cSL_charAt 12 = .ok (.iand, 1) := by decide +kernel
theorem dSL_charAt_13 : decode cSL_charAt 13 = .ok (.i2c, 1) := by decide +kernel
theorem dSL_charAt_14 : decode cSL_charAt 14 = .ok (.ireturn, 1) := by decide +kernel
theorem dST_checkIndex_0 : decode cST_checkIndex 0 = .ok (.iload_n 0, 1) := by decide +kernel
theorem dST_checkIndex_1 : decode cST_checkIndex 1 = .ok (.iload_n 1, 1) := by decide +kernel
theorem dST_checkIndex_2 : decode cST_checkIndex 2 = .ok (.getstatic 1053, 3) := by decide +kernel
theorem dST_checkIndex_5 : decode cST_checkIndex 5 = .ok (.invokestatic 1059, 3) := by decide +kernel
theorem dST_checkIndex_8 : decode cST_checkIndex 8 = .ok (.pop, 1) := by decide +kernel
theorem dST_checkIndex_9 : decode cST_checkIndex 9 = .ok (.return_, 1) := by decide +kernel
theorem dPC_checkIndex_0 : decode cPC_checkIndex 0 = .ok (.iload_n 0, 1) := by decide +kernel
theorem dPC_checkIndex_1 : decode cPC_checkIndex 1 = .ok (.ifCond .lt 8, 3) := by decide +kernel
theorem dPC_checkIndex_4 : decode cPC_checkIndex 4 = .ok (.iload_n 0, 1) := by decide +kernel
theorem dPC_checkIndex_5 : decode cPC_checkIndex 5 = .ok (.iload_n 1, 1) := by decide +kernel
theorem dPC_checkIndex_6 : decode cPC_checkIndex 6 = .ok (.if_icmp .lt 10, 3) := by decide +kernel
theorem dPC_checkIndex_9 : decode cPC_checkIndex 9 = .ok (.aload_n 2, 1) := by decide +kernel
theorem dPC_checkIndex_10 : decode cPC_checkIndex 10 = .ok (.iload_n 0, 1) := by decide +kernel
theorem dPC_checkIndex_11 : decode cPC_checkIndex 11 = .ok (.iload_n 1, 1) := by decide +kernel
theorem dPC_checkIndex_12 : decode cPC_checkIndex 12 = .ok (.invokestatic 95, 3) := by decide +kernel
theorem dPC_checkIndex_15 : decode cPC_checkIndex 15 = .ok (.athrow, 1) := by decide +kernel
theorem dPC_checkIndex_16 : decode cPC_checkIndex 16 = .ok (.iload_n 0, 1) := by decide +kernel
theorem dPC_checkIndex_17 : decode cPC_checkIndex 17 = .ok (.ireturn, 1) := by decide +kernel
theorem dST_substring_0 : decode cST_substring 0 = .ok (.aload_n 0, 1) := by decide +kernel
theorem dST_substring_1 : decode cST_substring 1 = .ok (.invokevirtual 505, 3) := by decide +kernel
theorem dST_substring_4 : decode cST_substring 4 = .ok (.istore_n 3, 1) := by decide +kernel
theorem dST_substring_5 : decode cST_substring 5 = .ok (.iload_n 1, 1) := by decide +kernel
theorem dST_substring_6 : decode cST_substring 6 = .ok (.iload_n 2, 1) := by decide +kernel
theorem dST_substring_7 : decode cST_substring 7 = .ok (.iload_n 3, 1) := by decide +kernel
theorem dST_substring_8 : decode cST_substring 8 = .ok (.invokestatic 521, 3) := by decide +kernel
theorem dST_substring_11 : decode cST_substring 11 = .ok (.iload_n 1, 1) := by decide +kernel
theorem dST_substring_12 : decode cST_substring 12 = .ok (.ifCond .ne 10, 3) := by decide +kernel
theorem dST_substring_15 : decode cST_substring 15 = .ok (.iload_n 2, 1) := by decide +kernel
theorem dST_substring_16 : decode cST_substring 16 = .ok (.iload_n 3, 1) := by decide +kernel
theorem dST_substring_17 : decode cST_substring 17 = .ok (.if_icmp .ne 5, 3) := by decide +kernel
theorem dST_substring_20 : decode cST_substring 20 = .ok (.aload_n 0, 1) := by decide +kernel
theorem dST_substring_21 : decode cST_substring 21 = .ok (.areturn, 1) := by decide +kernel
theorem dST_substring_22 : decode cST_substring 22 = .ok (.iload_n 2, 1) := by decide +kernel
theorem dST_substring_23 : decode cST_substring 23 = .ok (.iload_n 1, 1) := by decide +kernel
theorem dST_substring_24 : decode cST_substring 24 = .ok (.isub, 1) := by decide +kernel
theorem dST_substring_25 : decode cST_substring 25 = .ok (.istore 4, 2) := by decide +kernel
theorem dST_substring_27 : decode cST_substring 27 = .ok (.aload_n 0, 1) := by decide +kernel
theorem dST_substring_28 : decode cST_substring 28 = .ok (.invokevirtual 492, 3) := by decide +kernel
theorem dST_substring_31 : decode cST_substring 31 = .ok (.ifCond .eq 16, 3) := by decide +kernel
theorem dST_substring_34 : decode cST_substring 34 = .ok (.aload_n 0, 1) := by decide +kernel
theorem dST_substring_35 : decode cST_substring 35 = .ok (.getfield 9, 3) := by decide +kernel
theorem dST_substring_38 : decode cST_substring 38 = .ok (.iload_n 1, 1) := by decide +kernel
theorem dST_substring_39 : decode cST_substring 39 = .ok (.iload 4, 2) := by decide +kernel
theorem dST_substring_41 : decode cST_substring 41 = .ok (.invokestatic 685, 3) := by decide +kernel
theorem dST_substring_44 : decode cST_substring 44 = .ok (.goto 13, 3) := by decide +kernel
theorem dST_substring_47 : decode cST_substring 47 = .ok (.aload_n 0, 1) := by decide +kernel
theorem dST_substring_48 : decode cST_substring 48 = .ok (.getfield 9, 3) := by decide +kernel
theorem dST_substring_51 : decode cST_substring 51 = .ok (.iload_n 1, 1) := by decide +kernel
theorem dST_substring_52 : decode cST_substring 52 = .ok (.iload 4, 2) := by decide +kernel
theorem dST_substring_54 : decode cST_substring 54 = .ok (.invokestatic 689, 3) := by decide +kernel
theorem dST_substring_57 : decode cST_substring 57 = .ok (.areturn, 1) := by decide +kernel
theorem dST_checkBoundsBeginEnd_0 : decode cST_checkBoundsBeginEnd 0 = .ok (.iload_n 0, 1) := by decide +kernel
theorem dST_checkBoundsBeginEnd_1 : decode cST_checkBoundsBeginEnd 1 = .ok (.iload_n 1, 1) := by decide +kernel
theorem dST_checkBoundsBeginEnd_2 : decode cST_checkBoundsBeginEnd 2 = .ok (.iload_n 2, 1) := by decide +kernel
theorem dST_checkBoundsBeginEnd_3 : decode cST_checkBoundsBeginEnd 3 = .ok (.getstatic 1053, 3) := by decide +kernel
theorem dST_checkBoundsBeginEnd_6 : decode cST_checkBoundsBeginEnd 6 = .ok (.invokestatic 1062, 3) := by decide +kernel
theorem dST_checkBoundsBeginEnd_9 : decode cST_checkBoundsBeginEnd 9 = .ok (.pop, 1) := by decide +kernel
theorem dST_checkBoundsBeginEnd_10 : decode cST_checkBoundsBeginEnd 10 = .ok (.return_, 1) := by decide +kernel
theorem dPC_checkFromToIndex_0 : decode cPC_checkFromToIndex 0 = .ok (.iload_n 0, 1) := by decide +kernel
theorem dPC_checkFromToIndex_1 : decode cPC_checkFromToIndex 1 = .ok (.ifCond .lt 13, 3) := by decide +kernel
theorem dPC_checkFromToIndex_4 : decode cPC_checkFromToIndex 4 = .ok (.iload_n 0, 1) := by decide +kernel
theorem dPC_checkFromToIndex_5 : decode cPC_checkFromToIndex 5 = .ok (.iload_n 1, 1) := by decide +kernel
theorem dPC_checkFromToIndex_6 : decode cPC_checkFromToIndex 6 = .ok (.if_icmp .gt 8, 3) := by decide +kernel
theorem dPC_checkFromToIndex_9 : decode cPC_checkFromToIndex 9 = .ok (.iload_n 1, 1) := by decide +kernel
theorem dPC_checkFromToIndex_10 : decode cPC_checkFromToIndex 10 = .ok (.iload_n 2, 1) := by decide +kernel
theorem dPC_checkFromToIndex_11 : decode cPC_checkFromToIndex 11 = .ok (.if_icmp .le 11, 3) := by decide +kernel
theorem dPC_checkFromToIndex_14 : decode cPC_checkFromToIndex 14 = .ok (.aload_n 3, 1) := by decide +kernel
theorem dPC_checkFromToIndex_15 : decode cPC_checkFromToIndex 15 = .ok (.iload_n 0, 1) := by decide +kernel
theorem dPC_checkFromToIndex_16 : decode cPC_checkFromToIndex 16 = .ok (.iload_n 1, 1) := by decide +kernel
theorem dPC_checkFromToIndex_17 : decode cPC_checkFromToIndex 17 = .ok (.iload_n 2, 1) := by decide +kernel
theorem dPC_checkFromToIndex_18 : decode cPC_checkFromToIndex 18 = .ok (.invokestatic 99, 3) := by decide +kernel
theorem dPC_checkFromToIndex_21 : decode cPC_checkFromToIndex 21 = .ok (.athrow, 1) := by decide +kernel
theorem dPC_checkFromToIndex_22 : decode cPC_checkFromToIndex 22 = .ok (.iload_n 0, 1) := by decide +kernel
theorem dPC_checkFromToIndex_23 : decode cPC_checkFromToIndex 23 = .ok (.ireturn, 1) := by decide +kernel
theorem dSL_newString_0 : decode cSL_newString 0 = .ok (.iload_n 2, 1) := by decide +kernel
theorem dSL_newString_1 : decode cSL_newString 1 = .ok (.ifCond .ne 6, 3) := by decide +kernel
theorem dSL_newString_4 : decode cSL_newString 4 = .ok (.ldc 151, 2) := by decide +kernel
theorem dSL_newString_6 : decode cSL_newString 6 = .ok (.areturn, 1) := by decide +kernel
theorem dSL_newString_7 : decode cSL_newString 7 = .ok (.new 1, 3) := by decide +kernel
theorem dSL_newString_10 : decode cSL_newString 10 = .ok (.dup, 1) := by decide +kernel
theorem dSL_newString_11 : decode cSL_newString 11 = .ok (.aload_n 0, 1) := by decide +kernel
theorem dSL_newString_12 : decode cSL_newString 12 = .ok (.iload_n 1, 1) := by decide +kernel
theorem dSL_newString_13 : decode cSL_newString 13 = .ok (.iload_n 1, 1) := by decide +kernel
theorem dSL_newString_14 : decode cSL_newString 14 = .ok (.iload_n 2, 1) := by decide +kernel
theorem dSL_newString_15 : decode cSL_newString 15 = .ok (.iadd, 1) := by decide +kernel
theorem dSL_newString_16 : decode cSL_newString 16 = .ok (.invokestatic 232, 3) := by decide +kernel
theorem dSL_newString_19 : decode cSL_newString 19 = .ok (.iconst 0, 1) := by decide +kernel
theorem dSL_newString_20 : decode cSL_newString 20 = .ok (.invokespecial 112, 3) := by decide +kernel
theorem dSL_newString_23 : decode cSL_newString 23 = .ok (.areturn, 1) := by decide +kernel
theorem dAR_copyOfRange_0 : decode cAR_copyOfRange 0 = .ok (.iload_n 1, 1) := by decide +kernel
theorem dAR_copyOfRange_1 : decode cAR_copyOfRange 1 = .ok (.ifCond .ne 9, 3) := by decide +kernel
theorem dAR_copyOfRange_4 : decode cAR_copyOfRange 4 = .ok (.iload_n 2, 1) := by decide +kernel
theorem dAR_copyOfRange_5 : decode cAR_copyOfRange 5 = .ok (.aload_n 0, 1) := by decide +kernel
theorem dAR_copyOfRange_6 : decode cAR_copyOfRange 6 = .ok (.arraylength, 1) := by decide +kernel
theorem dAR_copyOfRange_7 : decode cAR_copyOfRange 7 = .ok (.if_icmp .eq 10, 3) := by decide +kernel
theorem dAR_copyOfRange_10 : decode cAR_copyOfRange 10 = .ok (.aload_n 0, 1) := by decide +kernel
theorem dAR_copyOfRange_11 : decode cAR_copyOfRange 11 = .ok (.iload_n 1, 1) := by decide +kernel
theorem dAR_copyOfRange_12 : decode cAR_copyOfRange 12 = .ok (.iload_n 2, 1) := by decide +kernel
theorem dAR_copyOfRange_13 : decode cAR_copyOfRange 13 = .ok (.invokestatic 339, 3) := by decide +kernel
theorem dAR_copyOfRange_16 : decode cAR_copyOfRange 16 = .ok (.areturn, 1) := by decide +kernel
theorem dAR_copyOfRange_17 : decode cAR_copyOfRange 17 = .ok (.aload_n 0, 1) := by decide +kernel
theorem dAR_copyOfRange_18 : decode cAR_copyOfRange 18 = .ok (.invokevirtual 310, 3) := by decide +kernel
theorem dAR_copyOfRange_21 : decode cAR_copyOfRange 21 = .ok (.checkcast 311, 3) := by decide +kernel
theorem dAR_copyOfRange_24 : decode cAR_copyOfRange 24 = .ok (.areturn, 1) := by decide +kernel
theorem dAR_copyOfRangeByte_0 : decode cAR_copyOfRangeByte 0 = .ok (.iload_n 1, 1) := by decide +kernel
theorem dAR_copyOfRangeByte_1 : decode cAR_copyOfRangeByte 1 = .ok (.iload_n 2, 1) := by decide +kernel
theorem dAR_copyOfRangeByte_2 : decode cAR_copyOfRangeByte 2 = .ok (.invokestatic 343, 3) := by decide +kernel
theorem dAR_copyOfRangeByte_5 : decode cAR_copyOfRangeByte 5 = .ok (.iload_n 2, 1) := by decide +kernel
theorem dAR_copyOfRangeByte_6 : decode cAR_copyOfRangeByte 6 = .ok (.iload_n 1, 1) := by decide +kernel
theorem dAR_copyOfRangeByte_7 : decode cAR_copyOfRangeByte 7 = .ok (.isub, 1) := by decide +kernel
theorem dAR_copyOfRangeByte_8 : decode cAR_copyOfRangeByte 8 = .ok (.istore_n 3, 1) := by decide +kernel
theorem dAR_copyOfRangeByte_9 : decode cAR_copyOfRangeByte 9 = .ok (.iload_n 3, 1) := by decide +kernel
theorem dAR_copyOfRangeByte_10 : decode cAR_copyOfRangeByte 10 = .ok (.newarray .byte, 2) := by decide +kernel
theorem dAR_copyOfRangeByte_12 : decode cAR_copyOfRangeByte 12 = .ok (.astore 4, 2) := by decide +kernel
theorem dAR_copyOfRangeByte_14 : decode cAR_copyOfRangeByte 14 = .ok (.aload_n 0, 1) := by decide +kernel
theorem dAR_copyOfRangeByte_15 : decode cAR_copyOfRangeByte 15 = .ok (.iload_n 1, 1) := by decide +kernel
theorem dAR_copyOfRangeByte_16 : decode cAR_copyOfRangeByte 16 = .ok (.aload 4, 2) := by decide +kernel
theorem dAR_copyOfRangeByte_18 : decode cAR_copyOfRangeByte 18 = .ok (.iconst 0, 1) := by decide +kernel
theorem dAR_copyOfRangeByte_19 : decode cAR_copyOfRangeByte 19 = .ok (.aload_n 0, 1) := by decide +kernel
theorem dAR_copyOfRangeByte_20 : decode cAR_copyOfRangeByte 20 = .ok (.arraylength, 1) := by decide +kernel
theorem dAR_copyOfRangeByte_21 : decode cAR_copyOfRangeByte 21 = .ok (.iload_n 1, 1) := by decide +kernel
theorem dAR_copyOfRangeByte_22 : decode cAR_copyOfRangeByte 22 = .ok (.isub, 1) := by decide +kernel
theorem dAR_copyOfRangeByte_23 : decode cAR_copyOfRangeByte 23 = .ok (.iload_n 3, 1) := by decide +kernel
theorem dAR_copyOfRangeByte_24 : decode cAR_copyOfRangeByte 24 = .ok (.invokestatic 304, 3) := by decide +kernel
theorem dAR_copyOfRangeByte_27 : decode cAR_copyOfRangeByte 27 = .ok (.invokestatic 150, 3) := by decide +kernel
theorem dAR_copyOfRangeByte_30 : decode cAR_copyOfRangeByte 30 = .ok (.aload 4, 2) := by decide +kernel
theorem dAR_copyOfRangeByte_32 : decode cAR_copyOfRangeByte 32 = .ok (.areturn, 1) := by decide +kernel
theorem dAR_checkLength_0 : decode cAR_checkLength 0 = .ok (.iload_n 1, 1) := by decide +kernel
theorem dAR_checkLength_1 : decode cAR_checkLength 1 = .ok (.iload_n 0, 1) := by decide +kernel
theorem dAR_checkLength_2 : decode cAR_checkLength 2 = .ok (.if_icmp .ge 35, 3) := by decide +kernel
theorem dAR_checkLength_5 : decode cAR_checkLength 5 = .ok (.new 43, 3) := by decide +kernel
theorem dAR_checkLength_8 : decode cAR_checkLength 8 = .ok (.dup, 1) := by decide +kernel
theorem dAR_checkLength_9 : decode cAR_checkLength 9 = .ok (.new 45, 3) := by decide +kernel
theorem dAR_checkLength_12 : decode cAR_checkLength 12 = .ok (.dup, 1) := by decide +kernel
theorem dAR_checkLength_13 : decode cAR_checkLength 13 = .ok (.invokespecial 47, 3) := by decide +kernel
theorem dAR_checkLength_16 : decode cAR_checkLength 16 = .ok (.iload_n 0, 1) := by decide +kernel
theorem dAR_checkLength_17 : decode cAR_checkLength 17 = .ok (.invokevirtual 54, 3) := by decide +kernel
theorem dAR_checkLength_20 : decode cAR_checkLength 20 = .ok (.ldc_w 337, 3) := by decide +kernel
theorem dAR_checkLength_23 : decode cAR_checkLength 23 = .ok (.invokevirtual 50, 3) := by decide +kernel
theorem dAR_checkLength_26 : decode cAR_checkLength 26 = .ok (.iload_n 1, 1) := by decide +kernel
theorem dAR_checkLength_27 : decode cAR_checkLength 27 = .ok (.invokevirtual 54, 3) := by decide +kernel
theorem dAR_checkLength_30 : decode cAR_checkLength 30 = .ok (.invokevirtual 61, 3) := by decide +kernel
theorem dAR_checkLength_33 : decode cAR_checkLength 33 = .ok (.invokespecial 65, 3) := by decide +kernel
theorem dAR_checkLength_36 : decode cAR_checkLength 36 = .ok (.athrow, 1) := by decide +kernel
theorem dAR_checkLength_37 : decode cAR_checkLength 37 = .ok (.return_, 1) := by decide +kernel
theorem dMA_min_0 : decode cMA_min 0 = .ok (.iload_n 0, 1) := by decide +kernel
theorem dMA_min_1 : decode cMA_min 1 = .ok (.iload_n 1, 1) := by decide +kernel
theorem dMA_min_2 : decode cMA_min 2 = .ok (.if_icmp .gt 7, 3) := by decide +kernel
theorem dMA_min_5 : decode cMA_min 5 = .ok (.iload_n 0, 1) := by decide +kernel
theorem dMA_min_6 : decode cMA_min 6 = .ok (.goto 4, 3) := by decide +kernel
theorem dMA_min_9 : decode cMA_min 9 = .ok (.iload_n 1, 1) := by decide +kernel
theorem dMA_min_10 : decode cMA_min 10 = .ok (.ireturn, 1) := by decide +kernel
theorem dST_init3_0 : decode cST_init3 0 = .ok (.aload_n 0, 1) := by decide +kernel
theorem dST_init3_1 : decode cST_init3 1 = .ok (.invokespecial 1, 3) := by decide +kernel
theorem dST_init3_4 : decode cST_init3 4 = .ok (.aload_n 0, 1) := by decide +kernel
theorem dST_init3_5 : decode cST_init3 5 = .ok (.aload_n 1, 1) := by decide +kernel
theorem dST_init3_6 : decode cST_init3 6 = .ok (.putfield 9, 3) := by decide +kernel
theorem dST_init3_9 : decode cST_init3 9 = .ok (.aload_n 0, 1) := by decide +kernel
theorem dST_init3_10 : decode cST_init3 10 = .ok (.iload_n 2, 1) := by decide +kernel
theorem dST_init3_11 : decode cST_init3 11 = .ok (.putfield 15, 3) := by decide +kernel
theorem dST_init3_14 : decode cST_init3 14 = .ok (.return_, 1) := by decide +kernel
theorem dST_equals_0 : decode cST_equals 0 = .ok (.aload_n 0, 1) := by decide +kernel
theorem dST_equals_1 : decode cST_equals 1 = .ok (.aload_n 1, 1) := by decide +kernel
theorem dST_equals_2 : decode cST_equals 2 = .ok (.if_acmp .ne 5, 3) := by decide +kernel
theorem dST_equals_5 : decode cST_equals 5 = .ok (.iconst 1, 1) := by decide +kernel
theorem dST_equals_6 : decode cST_equals 6 = .ok (.ireturn, 1) := by decide +kernel
theorem dST_equals_7 : decode cST_equals 7 = .ok (.aload_n 1, 1) := by decide +kernel
theorem dST_equals_8 : decode cST_equals 8 = .ok (.instanceof 10, 3) := by decide +kernel
theorem dST_equals_11 : decode cST_equals 11 = .ok (.ifCond .eq 43, 3) := by decide +kernel
theorem dST_equals_14 : decode cST_equals 14 = .ok (.aload_n 1, 1) := by decide +kernel
theorem dST_equals_15 : decode cST_equals 15 = .ok (.checkcast 10, 3) := by decide +kernel
theorem dST_equals_18 : decode cST_equals 18 = .ok (.astore_n 2, 1) := by decide +kernel
theorem dST_equals_19 : decode cST_equals 19 = .ok (.getstatic 38, 3) := by decide +kernel
theorem dST_equals_22 : decode cST_equals 22 = .ok (.ifCond .eq 14, 3) := by decide +kernel
theorem dST_equals_25 : decode cST_equals 25 = .ok (.aload_n 0, 1) := by decide +kernel
theorem dST_equals_26 : decode cST_equals 26 = .ok (.getfield 15, 3) := by decide +kernel
theorem dST_equals_29 : decode cST_equals 29 = .ok (.aload_n 2, 1) := by decide +kernel
theorem dST_equals_30 : decode cST_equals 30 = .ok (.getfield 15, 3) := by decide +kernel
theorem dST_equals_33 : decode cST_equals 33 = .ok (.if_icmp .ne 21, 3) := by decide +kernel
theorem dST_equals_36 : decode cST_equals 36 = .ok (.aload_n 0, 1) := by decide +kernel
theorem dST_equals_37 : decode cST_equals 37 = .ok (.getfield 9, 3) := by decide +kernel
theorem dST_equals_40 : decode cST_equals 40 = .ok (.aload_n 2, 1) := by decide +kernel
theorem dST_equals_41 : decode cST_equals 41 = .ok (.getfield 9, 3) := by decide +kernel
theorem dST_equals_44 : decode cST_equals 44 = .ok (.invokestatic 541, 3) := by decide +kernel
theorem dST_equals_47 : decode cST_equals 47 = .ok (.ifCond .eq 7, 3) := by decide +kernel
theorem dST_equals_50 : decode cST_equals 50 = .ok (.iconst 1, 1) := by decide +kernel
theorem dST_equals_51 : decode cST_equals 51 = .ok (.goto 4, 3) := by decide +kernel
theorem dST_equals_54 : decode cST_equals 54 = .ok (.iconst 0, 1) := by decide +kernel
theorem dST_equals_55 : decode cST_equals 55 = .ok (.ireturn, 1) := by decide +kernel
theorem dSL_equals_0 : decode cSL_equals 0 = .ok (.aload_n 0, 1) := by decide +kernel
theorem dSL_equals_1 : decode cSL_equals 1 = .ok (.arraylength, 1) := by decide +kernel
theorem dSL_equals_2 : decode cSL_equals 2 = .ok (.aload_n 1, 1) := by decide +kernel
theorem dSL_equals_3 : decode cSL_equals 3 = .ok (.arraylength, 1) := by decide +kernel
theorem dSL_equals_4 : decode cSL_equals 4 = .ok (.if_icmp .ne 30, 3) := by decide +kernel
theorem dSL_equals_7 : decode cSL_equals 7 = .ok (.iconst 0, 1) := by decide +kernel
theorem dSL_equals_8 : decode cSL_equals 8 = .ok (.istore_n 2, 1) := by decide +kernel
theorem dSL_equals_9 : decode cSL_equals 9 = .ok (.iload_n 2, 1) := by decide +kernel
theorem dSL_equals_10 : decode cSL_equals 10 = .ok (.aload_n 0, 1) := by decide +kernel
theorem dSL_equals_11 : decode cSL_equals 11 = .ok (.arraylength, 1) := by decide +kernel
theorem dSL_equals_12 : decode cSL_equals 12 = .ok (.if_icmp .ge 20, 3) := by decide +kernel
theorem dSL_equals_15 : decode cSL_equals 15 = .ok (.aload_n 0, 1) := by decide +kernel
theorem dSL_equals_16 : decode cSL_equals 16 = .ok (.iload_n 2, 1) := by decide +kernel
theorem dSL_equals_17 : decode cSL_equals 17 = .ok (.baload, 1) := by decide +kernel
theorem dSL_equals_18 : decode cSL_equals 18 = .ok (.aload_n 1, 1) := by decide +kernel
theorem dSL_equals_19 : decode cSL_equals 19 = .ok (.iload_n 2, 1) := by decide +kernel
theorem dSL_equals_20 : decode cSL_equals 20 = .ok (.baload, 1) := by decide +kernel
theorem dSL_equals_21 : decode cSL_equals 21 = .ok (.if_icmp .eq 5, 3) := by decide +kernel
theorem dSL_equals_24 : decode cSL_equals 24 = .ok (.iconst 0, 1) := by decide +kernel
theorem dSL_equals_25 : decode cSL_equals 25 = .ok (.ireturn, 1) := by decide +kernel
theorem dSL_equals_26 : decode cSL_equals 26 = .ok (.iinc 2 1, 3) := by decide +kernel
theorem dSL_equals_29 : decode cSL_equals 29 = .ok (.goto (-20), 3) := by decide +kernel
theorem dSL_equals_32 : decode cSL_equals 32 = .ok (.iconst 1, 1) := by decide +kernel
theorem dSL_equals_33 : decode cSL_equals 33 = .ok (.ireturn, 1) := by decide +kernel
theorem dSL_equals_34 : decode cSL_equals 34 = .ok (.iconst 0, 1) := by decide +kernel
theorem dSL_equals_35 : decode cSL_equals 35 = .ok (.ireturn, 1) := by decide +kernel
theorem dST_startsWith_0 : decode cST_startsWith 0 = .ok (.aload_n 0, 1) := by decide +kernel
theorem dST_startsWith_1 : decode cST_startsWith 1 = .ok (.aload_n 1, 1) := by decide +kernel
theorem dST_startsWith_2 : decode cST_startsWith 2 = .ok (.iconst 0, 1) := by decide +kernel
theorem dST_startsWith_3 : decode cST_startsWith 3 = .ok (.invokevirtual 624, 3) := by decide +kernel
theorem dST_startsWith_6 : decode cST_startsWith 6 = .ok (.ireturn, 1) := by decide +kernel
theorem dST_startsWith2_0 : decode cST_startsWith2 0 = .ok (.iload_n 2, 1) := by decide +kernel
theorem dST_startsWith2_1 : decode cST_startsWith2 1 = .ok (.ifCond .lt 16, 3) := by decide +kernel
theorem dST_startsWith2_4 : decode cST_startsWith2 4 = .ok (.iload_n 2, 1) := by decide +kernel
theorem dST_startsWith2_5 : decode cST_startsWith2 5 = .ok (.aload_n 0, 1) := by decide +kernel
theorem dST_startsWith2_6 : decode cST_startsWith2 6 = .ok (.invokevirtual 505, 3) := by decide +kernel
theorem dST_startsWith2_9 : decode cST_startsWith2 9 = .ok (.aload_n 1, 1) := by decide +kernel
theorem dST_startsWith2_10 : decode cST_startsWith2 10 = .ok (.invokevirtual 505, 3) := by decide +kernel
theorem dST_startsWith2_13 : decode cST_startsWith2 13 = .ok (.isub, 1) := by decide +kernel
theorem dST_startsWith2_14 : decode cST_startsWith2 14 = .ok (.if_icmp .le 5, 3) := by decide +kernel
theorem dST_startsWith2_17 : decode cST_startsWith2 17 = .ok (.iconst 0, 1) := by decide +kernel
theorem dST_startsWith2_18 : decode cST_startsWith2 18 = .ok (.ireturn, 1) := by decide +kernel
theorem dST_startsWith2_19 : decode cST_startsWith2 19 = .ok (.aload_n 0, 1) := by decide +kernel
theorem dST_startsWith2_20 : decode cST_startsWith2 20 = .ok (.getfield 9, 3) := by decide +kernel
theorem dST_startsWith2_23 : decode cST_startsWith2 23 = .ok (.astore_n 3, 1) := by decide +kernel
theorem dST_startsWith2_24 : decode cST_startsWith2 24 = .ok (.aload_n 1, 1) := by decide +kernel
theorem dST_startsWith2_25 : decode cST_startsWith2 25 = .ok (.getfield 9, 3) := by decide +kernel
theorem dST_startsWith2_28 : decode cST_startsWith2 28 = .ok (.astore 4, 2) := by decide +kernel
theorem dST_startsWith2_30 : decode cST_startsWith2 30 = .ok (.iconst 0, 1) := by decide +kernel
theorem dST_startsWith2_31 : decode cST_startsWith2 31 = .ok (.istore 5, 2) := by decide +kernel
theorem dST_startsWith2_33 : decode cST_startsWith2 33 = .ok (.aload 4, 2) := by decide +kernel
theorem dST_startsWith2_35 : decode cST_startsWith2 35 = .ok (.arraylength, 1) := by decide +kernel
theorem dST_startsWith2_36 : decode cST_startsWith2 36 = .ok (.istore 6, 2) := by decide +kernel
theorem dST_startsWith2_38 : decode cST_startsWith2 38 = .ok (.aload_n 0, 1) := by decide +kernel
theorem dST_startsWith2_39 : decode cST_startsWith2 39 = .ok (.invokevirtual 335, 3) := by decide +kernel
theorem dST_startsWith2_42 : decode cST_startsWith2 42 = .ok (.istore 7, 2) := by decide +kernel
theorem dST_startsWith2_44 : decode cST_startsWith2 44 = .ok (.iload 7, 2) := by decide +kernel
theorem dST_startsWith2_46 : decode cST_startsWith2 46 = .ok (.aload_n 1, 1) := by decide +kernel
theorem dST_startsWith2_47 : decode cST_startsWith2 47 = .ok (.invokevirtual 335, 3) := by decide +kernel
theorem dST_startsWith2_50 : decode cST_startsWith2 50 = .ok (.if_icmp .ne 32, 3) := by decide +kernel
theorem dST_startsWith2_53 : decode cST_startsWith2 53 = .ok (.iload 7, 2) := by decide +kernel
theorem dST_startsWith2_55 : decode cST_startsWith2 55 = .ok (.iconst 1, 1) := by decide +kernel
theorem dST_startsWith2_56 : decode cST_startsWith2 56 = .ok (.if_icmp .ne 7, 3) := by decide +kernel
theorem dST_startsWith2_59 : decode cST_startsWith2 59 = .ok (.iload_n 2, 1) := by decide +kernel
theorem dST_startsWith2_60 : decode cST_startsWith2 60 = .ok (.iconst 1, 1) := by decide +kernel
theorem dST_startsWith2_61 : decode cST_startsWith2 61 = .ok (.ishl, 1) := by decide +kernel
theorem dST_startsWith2_62 : decode cST_startsWith2 62 = .ok (.istore_n 2, 1) := by decide +kernel
theorem dST_startsWith2_63 : decode cST_startsWith2 63 = .ok (.aload_n 3, 1) := by decide +kernel
theorem dST_startsWith2_64 : decode cST_startsWith2 64 = .ok (.iload_n 2, 1) := by decide +kernel
theorem dST_startsWith2_65 : decode cST_startsWith2 65 = .ok (.aload 4, 2) := by decide +kernel
theorem dST_startsWith2_67 : decode cST_startsWith2 67 = .ok (.iconst 0, 1) := by decide +kernel
theorem dST_startsWith2_68 : decode cST_startsWith2 68 = .ok (.iload 6, 2) := by decide +kernel
theorem dST_startsWith2_70 : decode cST_startsWith2 70 = .ok (.invokestatic 607, 3) := by decide +kernel
theorem dST_startsWith2_73 : decode cST_startsWith2 73 = .ok (.ifCond .ge 7, 3) := by decide +kernel
theorem dST_startsWith2_76 : decode cST_startsWith2 76 = .ok (.iconst 1, 1) := by decide +kernel
theorem dST_startsWith2_77 : decode cST_startsWith2 77 = .ok (.goto 4, 3) := by decide +kernel
theorem dST_startsWith2_80 : decode cST_startsWith2 80 = .ok (.iconst 0, 1) := by decide +kernel
theorem dST_startsWith2_81 : decode cST_startsWith2 81 = .ok (.ireturn, 1) := by decide +kernel
theorem dST_startsWith2_82 : decode cST_startsWith2 82 = .ok (.iload 7, 2) := by decide +kernel
theorem dST_startsWith2_84 : decode cST_startsWith2 84 = .ok (.ifCond .ne 5, 3) := by decide +kernel
theorem dST_startsWith2_87 : decode cST_startsWith2 87 = .ok (.iconst 0, 1) := by decide +kernel
theorem dST_startsWith2_88 : decode cST_startsWith2 88 = .ok (.ireturn, 1) := by decide +kernel
theorem dST_startsWith2_89 : decode cST_startsWith2 89 = .ok (.iload 5, 2) := by decide +kernel
theorem dST_startsWith2_91 : decode cST_startsWith2 91 = .ok (.iload 6, 2) := by decide +kernel
theorem dST_startsWith2_93 : decode cST_startsWith2 93 = .ok (.if_icmp .ge 28, 3) := by decide +kernel
theorem dST_startsWith2_96 : decode cST_startsWith2 96 = .ok (.aload_n 3, 1) := by decide +kernel
theorem dST_startsWith2_97 : decode cST_startsWith2 97 = .ok (.iload_n 2, 1) := by decide +kernel
theorem dST_startsWith2_98 : decode cST_startsWith2 98 = .ok (.iinc 2 1, 3) := by decide +kernel
theorem dST_startsWith2_101 : decode cST_startsWith2 101 = .ok (.invokestatic 360, 3) := by decide +kernel
theorem dST_startsWith2_104 : decode cST_startsWith2 104 = .ok (.aload 4, 2) := by decide +kernel
theorem dST_startsWith2_106 : decode cST_startsWith2 106 = .ok (.iload 5, 2) := by decide +kernel
theorem dST_startsWith2_108 : decode cST_startsWith2 108 = .ok (.iinc 5 1, 3) := by decide +kernel
theorem dST_startsWith2_111 : decode cST_startsWith2 111 = .ok (.baload, 1) := by decide +kernel
theorem dST_startsWith2_112 : decode cST_startsWith2 112 = .ok (.sipush 255, 3) := by decide +kernel
theorem dST_startsWith2_115 : decode cST_startsWith2 115 = .ok (.iand, 1) := by decide +kernel
theorem dST_startsWith2_116 : decode cST_startsWith2 116 = .ok (.if_icmp .eq (-27), 3) := by decide +kernel
theorem dST_startsWith2_119 : decode cST_startsWith2 119 = .ok (.iconst 0, 1) := by decide +kernel
theorem dST_startsWith2_120 : decode cST_startsWith2 120 = .ok (.ireturn, 1) := by decide +kernel
theorem dST_startsWith2_121 : decode cST_startsWith2 121 = .ok (.iconst 1, 1) := by decide +kernel
theorem dST_startsWith2_122 : decode cST_startsWith2 122 = .ok (.ireturn, 1) := by decide +kernel
end
section
set_option maxHeartbeats 800000 in
set_option maxRecDepth 100000 in
theorem mPC_checkIndex_n (l : Launch) (g : kG) (μ : km_M) {i n : Nat} (hi : i < n) (hn : n ≤ 400) : Met l yPC_checkIndex (Cond.code yPC_checkIndex cPC_checkIndex 3 (some .int) :: Wd) ({ frames := 0, cells := 0, slots := 0, locals := 0 } : Room) (kPre g μ [.int (nI i), .int (nI n), .null]) (kQi g (fun (r : Int32) (μ1 : km_M) => r = nI i ∧ μ1 = μ)) 0 0 (kF g) := by
  refine k_met (by decide) (Nat.le_of_ble_eq_true rfl) ?_
  intro p e s m below meth c hx hb hr hlocks hml hown hnm hW ls hl H locs hM
  have hl : lv_has ls 3 [(0, .int (nI i)), (1, .int (nI n)), (2, .null)] := hl
  refine lv_iload_n hx hb dPC_checkIndex_0 rfl (lv_at hl 0 rfl) ?_
  refine lv_if_lt (tgt := 9) hx hb dPC_checkIndex_1 (by decide) (fun h1 => ?_) (fun h1 => ?_)
  · exact absurd h1 (nI_pos (by omega))
  · skip
    refine lv_iload_n hx hb dPC_checkIndex_4 rfl (lv_at hl 0 rfl) ?_
    refine lv_iload_n hx hb dPC_checkIndex_5 rfl (lv_at hl 1 rfl) ?_
    refine lv_icmp_lt (tgt := 16) hx hb dPC_checkIndex_6 (by decide) (fun h6 => ?_) (fun h6 => ?_)
    · skip
      refine lv_iload_n hx hb dPC_checkIndex_16 rfl (lv_at hl 0 rfl) ?_
      exact kr_i hx hb hr hlocks hM dPC_checkIndex_17 (⟨by first | rfl | exact bI_t (by omega) | exact bI_f (by omega), rfl⟩)
    · exact absurd (nI_lt hi (by omega)) h6
set_option maxHeartbeats 800000 in
set_option maxRecDepth 100000 in
theorem mPC_checkFromToIndex_n (l : Launch) (g : kG) (μ : km_M) {i j n : Nat} (hi : i ≤ j) (hj : j ≤ n) (hn : n ≤ 400) : Met l yPC_checkFromToIndex (Cond.code yPC_checkFromToIndex cPC_checkFromToIndex 4 (some .int) :: Wd) ({ frames := 0, cells := 0, slots := 0, locals := 0 } : Room) (kPre g μ [.int (nI i), .int (nI j), .int (nI n), .null]) (kQi g (fun (r : Int32) (μ1 : km_M) => r = nI i ∧ μ1 = μ)) 0 0 (kF g) := by
  refine k_met (by decide) (Nat.le_of_ble_eq_true rfl) ?_
  intro p e s m below meth c hx hb hr hlocks hml hown hnm hW ls hl H locs hM
  have hl : lv_has ls 4 [(0, .int (nI i)), (1, .int (nI j)), (2, .int (nI n)), (3, .null)] := hl
  refine lv_iload_n hx hb dPC_checkFromToIndex_0 rfl (lv_at hl 0 rfl) ?_
  refine lv_if_lt (tgt := 14) hx hb dPC_checkFromToIndex_1 (by decide) (fun h1 => ?_) (fun h1 => ?_)
  · exact absurd h1 (nI_pos (by omega))
  · skip
    refine lv_iload_n hx hb dPC_checkFromToIndex_4 rfl (lv_at hl 0 rfl) ?_
    refine lv_iload_n hx hb dPC_checkFromToIndex_5 rfl (lv_at hl 1 rfl) ?_
    refine lv_icmp_gt (tgt := 14) hx hb dPC_checkFromToIndex_6 (by decide) (fun h6 => ?_) (fun h6 => ?_)
    · exact absurd h6 (nI_nlt hi (by omega))
    · skip
      refine lv_iload_n hx hb dPC_checkFromToIndex_9 rfl (lv_at hl 1 rfl) ?_
      refine lv_iload_n hx hb dPC_checkFromToIndex_10 rfl (lv_at hl 2 rfl) ?_
      refine lv_icmp_le (tgt := 22) hx hb dPC_checkFromToIndex_11 (by decide) (fun h11 => ?_) (fun h11 => ?_)
      · skip
        refine lv_iload_n hx hb dPC_checkFromToIndex_22 rfl (lv_at hl 0 rfl) ?_
        exact kr_i hx hb hr hlocks hM dPC_checkFromToIndex_23 (⟨by first | rfl | exact bI_t (by omega) | exact bI_f (by omega), rfl⟩)
      · exact absurd (nI_le hj (by omega)) h11
set_option maxHeartbeats 800000 in
set_option maxRecDepth 100000 in
theorem mPC_checkFromIndexSize_n (l : Launch) (g : kG) (μ : km_M) {i k n : Nat} (hi : i + k ≤ n) (hn : n ≤ 400) : Met l yPC_checkFromIndexSize (Cond.code yPC_checkFromIndexSize cPC_checkFromIndexSize 4 (some .int) :: Wd) ({ frames := 0, cells := 0, slots := 0, locals := 0 } : Room) (kPre g μ [.int (nI i), .int (nI k), .int (nI n), .null]) (kQi g (fun (r : Int32) (μ1 : km_M) => r = nI i ∧ μ1 = μ)) 0 0 (kF g) := by
  refine k_met (by decide) (Nat.le_of_ble_eq_true rfl) ?_
  intro p e s m below meth c hx hb hr hlocks hml hown hnm hW ls hl H locs hM
  have hl : lv_has ls 4 [(0, .int (nI i)), (1, .int (nI k)), (2, .int (nI n)), (3, .null)] := hl
  refine lv_iload_n hx hb dPC_checkFromIndexSize_0 rfl (lv_at hl 2 rfl) ?_
  refine lv_iload_n hx hb dPC_checkFromIndexSize_1 rfl (lv_at hl 0 rfl) ?_
  refine lv_ior hx hb dPC_checkFromIndexSize_2 ?_
  refine topi_eq (y := nI (n ||| i)) (or_nI (by omega) (by omega)) ?_
  refine lv_iload_n hx hb dPC_checkFromIndexSize_3 rfl (lv_at hl 1 rfl) ?_
  refine lv_ior hx hb dPC_checkFromIndexSize_4 ?_
  refine topi_eq (y := nI (n ||| i ||| k)) (or_nI (or_lt (by omega) (by omega)) (by omega)) ?_
  refine lv_if_lt (tgt := 15) hx hb dPC_checkFromIndexSize_5 (by decide) (fun h5 => ?_) (fun h5 => ?_)
  · exact absurd h5 (nI_pos (Nat.lt_trans (or_lt (or_lt (a := n) (b := i) (by omega) (by omega)) (by omega)) (by decide)))
  · skip
    refine lv_iload_n hx hb dPC_checkFromIndexSize_8 rfl (lv_at hl 1 rfl) ?_
    refine lv_iload_n hx hb dPC_checkFromIndexSize_9 rfl (lv_at hl 2 rfl) ?_
    refine lv_iload_n hx hb dPC_checkFromIndexSize_10 rfl (lv_at hl 0 rfl) ?_
    refine lv_isub hx hb dPC_checkFromIndexSize_11 ?_
    refine topi_eq (y := nI (n - i)) (pk_sub (a := n) (b := i) (by omega)) ?_
    refine lv_icmp_le (tgt := 23) hx hb dPC_checkFromIndexSize_12 (by decide) (fun h12 => ?_) (fun h12 => ?_)
    · skip
      refine lv_iload_n hx hb dPC_checkFromIndexSize_23 rfl (lv_at hl 0 rfl) ?_
      exact kr_i hx hb hr hlocks hM dPC_checkFromIndexSize_24 (⟨by first | rfl | exact bI_t (by omega) | exact bI_f (by omega), rfl⟩)
    · exact absurd (nI_le (show k ≤ n - i by omega) (by omega)) h12
set_option maxHeartbeats 800000 in
set_option maxRecDepth 100000 in
theorem mPC_checkIndex (l : Launch) (g : kG) (μ : km_M) {fm : Nat} {i n : Nat} (hi : i < n) (hn : n ≤ 400) : Met l yPC_checkIndex (Cond.code yPC_checkIndex cPC_checkIndex 3 (some .int) :: Wd) ({ frames := 0, cells := 0, slots := 0, locals := 0 } : Room) (kPre g μ [.int (nI i), .int (nI n), .ref fm]) (kQi g (fun (r : Int32) (μ1 : km_M) => r = nI i ∧ μ1 = μ)) 0 0 (kF g) := by
  refine k_met (by decide) (Nat.le_of_ble_eq_true rfl) ?_
  intro p e s m below meth c hx hb hr hlocks hml hown hnm hW ls hl H locs hM
  have hl : lv_has ls 3 [(0, .int (nI i)), (1, .int (nI n)), (2, .ref fm)] := hl
  refine lv_iload_n hx hb dPC_checkIndex_0 rfl (lv_at hl 0 rfl) ?_
  refine lv_if_lt (tgt := 9) hx hb dPC_checkIndex_1 (by decide) (fun h1 => ?_) (fun h1 => ?_)
  · exact absurd h1 (nI_pos (by omega))
  · skip
    refine lv_iload_n hx hb dPC_checkIndex_4 rfl (lv_at hl 0 rfl) ?_
    refine lv_iload_n hx hb dPC_checkIndex_5 rfl (lv_at hl 1 rfl) ?_
    refine lv_icmp_lt (tgt := 16) hx hb dPC_checkIndex_6 (by decide) (fun h6 => ?_) (fun h6 => ?_)
    · skip
      refine lv_iload_n hx hb dPC_checkIndex_16 rfl (lv_at hl 0 rfl) ?_
      exact kr_i hx hb hr hlocks hM dPC_checkIndex_17 (⟨by first | rfl | exact bI_t (by omega) | exact bI_f (by omega), rfl⟩)
    · exact absurd (nI_lt hi (by omega)) h6
set_option maxHeartbeats 800000 in
set_option maxRecDepth 100000 in
theorem mPC_checkFromToIndex (l : Launch) (g : kG) (μ : km_M) {fm : Nat} {i j n : Nat} (hi : i ≤ j) (hj : j ≤ n) (hn : n ≤ 400) : Met l yPC_checkFromToIndex (Cond.code yPC_checkFromToIndex cPC_checkFromToIndex 4 (some .int) :: Wd) ({ frames := 0, cells := 0, slots := 0, locals := 0 } : Room) (kPre g μ [.int (nI i), .int (nI j), .int (nI n), .ref fm]) (kQi g (fun (r : Int32) (μ1 : km_M) => r = nI i ∧ μ1 = μ)) 0 0 (kF g) := by
  refine k_met (by decide) (Nat.le_of_ble_eq_true rfl) ?_
  intro p e s m below meth c hx hb hr hlocks hml hown hnm hW ls hl H locs hM
  have hl : lv_has ls 4 [(0, .int (nI i)), (1, .int (nI j)), (2, .int (nI n)), (3, .ref fm)] := hl
  refine lv_iload_n hx hb dPC_checkFromToIndex_0 rfl (lv_at hl 0 rfl) ?_
  refine lv_if_lt (tgt := 14) hx hb dPC_checkFromToIndex_1 (by decide) (fun h1 => ?_) (fun h1 => ?_)
  · exact absurd h1 (nI_pos (by omega))
  · skip
    refine lv_iload_n hx hb dPC_checkFromToIndex_4 rfl (lv_at hl 0 rfl) ?_
    refine lv_iload_n hx hb dPC_checkFromToIndex_5 rfl (lv_at hl 1 rfl) ?_
    refine lv_icmp_gt (tgt := 14) hx hb dPC_checkFromToIndex_6 (by decide) (fun h6 => ?_) (fun h6 => ?_)
    · exact absurd h6 (nI_nlt hi (by omega))
    · skip
      refine lv_iload_n hx hb dPC_checkFromToIndex_9 rfl (lv_at hl 1 rfl) ?_
      refine lv_iload_n hx hb dPC_checkFromToIndex_10 rfl (lv_at hl 2 rfl) ?_
      refine lv_icmp_le (tgt := 22) hx hb dPC_checkFromToIndex_11 (by decide) (fun h11 => ?_) (fun h11 => ?_)
      · skip
        refine lv_iload_n hx hb dPC_checkFromToIndex_22 rfl (lv_at hl 0 rfl) ?_
        exact kr_i hx hb hr hlocks hM dPC_checkFromToIndex_23 (⟨by first | rfl | exact bI_t (by omega) | exact bI_f (by omega), rfl⟩)
      · exact absurd (nI_le hj (by omega)) h11
set_option maxHeartbeats 800000 in
set_option maxRecDepth 100000 in
theorem mPC_checkFromIndexSize (l : Launch) (g : kG) (μ : km_M) {fm : Nat} {i k n : Nat} (hi : i + k ≤ n) (hn : n ≤ 400) : Met l yPC_checkFromIndexSize (Cond.code yPC_checkFromIndexSize cPC_checkFromIndexSize 4 (some .int) :: Wd) ({ frames := 0, cells := 0, slots := 0, locals := 0 } : Room) (kPre g μ [.int (nI i), .int (nI k), .int (nI n), .ref fm]) (kQi g (fun (r : Int32) (μ1 : km_M) => r = nI i ∧ μ1 = μ)) 0 0 (kF g) := by
  refine k_met (by decide) (Nat.le_of_ble_eq_true rfl) ?_
  intro p e s m below meth c hx hb hr hlocks hml hown hnm hW ls hl H locs hM
  have hl : lv_has ls 4 [(0, .int (nI i)), (1, .int (nI k)), (2, .int (nI n)), (3, .ref fm)] := hl
  refine lv_iload_n hx hb dPC_checkFromIndexSize_0 rfl (lv_at hl 2 rfl) ?_
  refine lv_iload_n hx hb dPC_checkFromIndexSize_1 rfl (lv_at hl 0 rfl) ?_
  refine lv_ior hx hb dPC_checkFromIndexSize_2 ?_
  refine topi_eq (y := nI (n ||| i)) (or_nI (by omega) (by omega)) ?_
  refine lv_iload_n hx hb dPC_checkFromIndexSize_3 rfl (lv_at hl 1 rfl) ?_
  refine lv_ior hx hb dPC_checkFromIndexSize_4 ?_
  refine topi_eq (y := nI (n ||| i ||| k)) (or_nI (or_lt (by omega) (by omega)) (by omega)) ?_
  refine lv_if_lt (tgt := 15) hx hb dPC_checkFromIndexSize_5 (by decide) (fun h5 => ?_) (fun h5 => ?_)
  · exact absurd h5 (nI_pos (Nat.lt_trans (or_lt (or_lt (a := n) (b := i) (by omega) (by omega)) (by omega)) (by decide)))
  · skip
    refine lv_iload_n hx hb dPC_checkFromIndexSize_8 rfl (lv_at hl 1 rfl) ?_
    refine lv_iload_n hx hb dPC_checkFromIndexSize_9 rfl (lv_at hl 2 rfl) ?_
    refine lv_iload_n hx hb dPC_checkFromIndexSize_10 rfl (lv_at hl 0 rfl) ?_
    refine lv_isub hx hb dPC_checkFromIndexSize_11 ?_
    refine topi_eq (y := nI (n - i)) (pk_sub (a := n) (b := i) (by omega)) ?_
    refine lv_icmp_le (tgt := 23) hx hb dPC_checkFromIndexSize_12 (by decide) (fun h12 => ?_) (fun h12 => ?_)
    · skip
      refine lv_iload_n hx hb dPC_checkFromIndexSize_23 rfl (lv_at hl 0 rfl) ?_
      exact kr_i hx hb hr hlocks hM dPC_checkFromIndexSize_24 (⟨by first | rfl | exact bI_t (by omega) | exact bI_f (by omega), rfl⟩)
    · exact absurd (nI_le (show k ≤ n - i by omega) (by omega)) h12
set_option maxHeartbeats 800000 in
set_option maxRecDepth 100000 in
theorem mST_checkIndex (l : Launch) (g : kG) (μ : km_M) {i n : Nat} (hi : i < n) (hn : n ≤ 400) : Met l yST_checkIndex (Cond.code yST_checkIndex cST_checkIndex 2 none :: Wd) ({ frames := 1, cells := 0, slots := 0, locals := 22 } : Room) (kPre g μ [.int (nI i), .int (nI n)]) (kQv g (fun (μ1 : km_M) => μ1 = μ)) 0 0 (kF g) := by
  refine k_met (by decide) (Nat.le_of_ble_eq_true rfl) ?_
  intro p e s m below meth c hx hb hr hlocks hml hown hnm hW ls hl H locs hM
  have hl : lv_has ls 2 [(0, .int (nI i)), (1, .int (nI n))] := hl
  refine lv_iload_n hx hb dST_checkIndex_0 rfl (lv_at hl 0 rfl) ?_
  refine lv_iload_n hx hb dST_checkIndex_1 rfl (lv_at hl 1 rfl) ?_
  rcases hM.2.1.2.2.2.2.2.2.1 ("jdk/internal/util/Preconditions", "SIOOBE_FORMATTER", "Ljava/util/function/BiFunction;") (by decide +kernel) with hz | ⟨fm, hz⟩
  · refine va_gets (C := "jdk/internal/util/Preconditions") (n := "SIOOBE_FORMATTER") (d := "Ljava/util/function/BiFunction;") (v := .null) hx hb hz hM.2.2.2 hown (hW _ w_344) (fun _ h => h) dST_checkIndex_2 ?_
    refine kc_i (va_runS (As := [.int (nI i), .int (nI n), .null]) (rest := []) (Ts := Wd) ⟨hx, hb, hml, hown, hW⟩ (mPC_checkIndex_n l g μ (i := i) (n := n) (by omega) (by omega)) (va_cwS 3 hW (k_gS w_452 w_453 w_10 w_454) rfl rfl rfl (by decide +kernel) ⟨Nat.le_of_ble_eq_true rfl, Nat.le_of_ble_eq_true rfl⟩) (k_preS hM) rfl rfl hl.1 rfl (lv_room (Nat.le_of_ble_eq_true rfl)) dST_checkIndex_5 ⟨Nat.zero_le _, Nat.zero_le _⟩) hM (fun r μ1 H locs hp hM => ?_)
    obtain ⟨rfl, hmu⟩ := hp
    rw [hmu] at hM
    refine lv_pop hx hb dST_checkIndex_8 rfl ?_
    exact kr_v hx hb hr hlocks hM dST_checkIndex_9 rfl
  · refine va_gets (C := "jdk/internal/util/Preconditions") (n := "SIOOBE_FORMATTER") (d := "Ljava/util/function/BiFunction;") (v := .ref fm) hx hb hz hM.2.2.2 hown (hW _ w_344) (fun _ h => h) dST_checkIndex_2 ?_
    refine kc_i (va_runS (As := [.int (nI i), .int (nI n), .ref fm]) (rest := []) (Ts := Wd) ⟨hx, hb, hml, hown, hW⟩ (mPC_checkIndex l g μ (i := i) (n := n) (fm := fm) (by omega) (by omega)) (va_cwS 3 hW (k_gS w_452 w_453 w_10 w_454) rfl rfl rfl (by decide +kernel) ⟨Nat.le_of_ble_eq_true rfl, Nat.le_of_ble_eq_true rfl⟩) (k_preS hM) rfl rfl hl.1 rfl (lv_room (Nat.le_of_ble_eq_true rfl)) dST_checkIndex_5 ⟨Nat.zero_le _, Nat.zero_le _⟩) hM (fun r μ1 H locs hp hM => ?_)
    obtain ⟨rfl, hmu⟩ := hp
    rw [hmu] at hM
    refine lv_pop hx hb dST_checkIndex_8 rfl ?_
    exact kr_v hx hb hr hlocks hM dST_checkIndex_9 rfl
set_option maxHeartbeats 800000 in
set_option maxRecDepth 100000 in
theorem mST_checkBoundsBeginEnd (l : Launch) (g : kG) (μ : km_M) {i j n : Nat} (hi : i ≤ j) (hj : j ≤ n) (hn : n ≤ 400) : Met l yST_checkBoundsBeginEnd (Cond.code yST_checkBoundsBeginEnd cST_checkBoundsBeginEnd 3 none :: Wd) ({ frames := 1, cells := 0, slots := 0, locals := 23 } : Room) (kPre g μ [.int (nI i), .int (nI j), .int (nI n)]) (kQv g (fun (μ1 : km_M) => μ1 = μ)) 0 0 (kF g) := by
  refine k_met (by decide) (Nat.le_of_ble_eq_true rfl) ?_
  intro p e s m below meth c hx hb hr hlocks hml hown hnm hW ls hl H locs hM
  have hl : lv_has ls 3 [(0, .int (nI i)), (1, .int (nI j)), (2, .int (nI n))] := hl
  refine lv_iload_n hx hb dST_checkBoundsBeginEnd_0 rfl (lv_at hl 0 rfl) ?_
  refine lv_iload_n hx hb dST_checkBoundsBeginEnd_1 rfl (lv_at hl 1 rfl) ?_
  refine lv_iload_n hx hb dST_checkBoundsBeginEnd_2 rfl (lv_at hl 2 rfl) ?_
  rcases hM.2.1.2.2.2.2.2.2.1 ("jdk/internal/util/Preconditions", "SIOOBE_FORMATTER", "Ljava/util/function/BiFunction;") (by decide +kernel) with hz | ⟨fm, hz⟩
  · refine va_gets (C := "jdk/internal/util/Preconditions") (n := "SIOOBE_FORMATTER") (d := "Ljava/util/function/BiFunction;") (v := .null) hx hb hz hM.2.2.2 hown (hW _ w_344) (fun _ h => h) dST_checkBoundsBeginEnd_3 ?_
    refine kc_i (va_runS (As := [.int (nI i), .int (nI j), .int (nI n), .null]) (rest := []) (Ts := Wd) ⟨hx, hb, hml, hown, hW⟩ (mPC_checkFromToIndex_n l g μ (i := i) (j := j) (n := n) (by omega) (by omega) (by omega)) (va_cwS 4 hW (k_gS w_473 w_474 w_10 w_475) rfl rfl rfl (by decide +kernel) ⟨Nat.le_of_ble_eq_true rfl, Nat.le_of_ble_eq_true rfl⟩) (k_preS hM) rfl rfl hl.1 rfl (lv_room (Nat.le_of_ble_eq_true rfl)) dST_checkBoundsBeginEnd_6 ⟨Nat.zero_le _, Nat.zero_le _⟩) hM (fun r μ1 H locs hp hM => ?_)
    obtain ⟨rfl, hmu⟩ := hp
    rw [hmu] at hM
    refine lv_pop hx hb dST_checkBoundsBeginEnd_9 rfl ?_
    exact kr_v hx hb hr hlocks hM dST_checkBoundsBeginEnd_10 rfl
  · refine va_gets (C := "jdk/internal/util/Preconditions") (n := "SIOOBE_FORMATTER") (d := "Ljava/util/function/BiFunction;") (v := .ref fm) hx hb hz hM.2.2.2 hown (hW _ w_344) (fun _ h => h) dST_checkBoundsBeginEnd_3 ?_
    refine kc_i (va_runS (As := [.int (nI i), .int (nI j), .int (nI n), .ref fm]) (rest := []) (Ts := Wd) ⟨hx, hb, hml, hown, hW⟩ (mPC_checkFromToIndex l g μ (i := i) (j := j) (n := n) (fm := fm) (by omega) (by omega) (by omega)) (va_cwS 4 hW (k_gS w_473 w_474 w_10 w_475) rfl rfl rfl (by decide +kernel) ⟨Nat.le_of_ble_eq_true rfl, Nat.le_of_ble_eq_true rfl⟩) (k_preS hM) rfl rfl hl.1 rfl (lv_room (Nat.le_of_ble_eq_true rfl)) dST_checkBoundsBeginEnd_6 ⟨Nat.zero_le _, Nat.zero_le _⟩) hM (fun r μ1 H locs hp hM => ?_)
    obtain ⟨rfl, hmu⟩ := hp
    rw [hmu] at hM
    refine lv_pop hx hb dST_checkBoundsBeginEnd_9 rfl ?_
    exact kr_v hx hb hr hlocks hM dST_checkBoundsBeginEnd_10 rfl
set_option maxHeartbeats 800000 in
set_option maxRecDepth 100000 in
theorem mST_checkBoundsOffCount (l : Launch) (g : kG) (μ : km_M) {i k n : Nat} (hi : i + k ≤ n) (hn : n ≤ 400) : Met l yST_checkBoundsOffCount (Cond.code yST_checkBoundsOffCount cST_checkBoundsOffCount 3 (some .int) :: Wd) ({ frames := 1, cells := 0, slots := 0, locals := 23 } : Room) (kPre g μ [.int (nI i), .int (nI k), .int (nI n)]) (kQi g (fun (r : Int32) (μ1 : km_M) => r = nI i ∧ μ1 = μ)) 0 0 (kF g) := by
  refine k_met (by decide) (Nat.le_of_ble_eq_true rfl) ?_
  intro p e s m below meth c hx hb hr hlocks hml hown hnm hW ls hl H locs hM
  have hl : lv_has ls 3 [(0, .int (nI i)), (1, .int (nI k)), (2, .int (nI n))] := hl
  refine lv_iload_n hx hb dST_checkBoundsOffCount_0 rfl (lv_at hl 0 rfl) ?_
  refine lv_iload_n hx hb dST_checkBoundsOffCount_1 rfl (lv_at hl 1 rfl) ?_
  refine lv_iload_n hx hb dST_checkBoundsOffCount_2 rfl (lv_at hl 2 rfl) ?_
  rcases hM.2.1.2.2.2.2.2.2.1 ("jdk/internal/util/Preconditions", "SIOOBE_FORMATTER", "Ljava/util/function/BiFunction;") (by decide +kernel) with hz | ⟨fm, hz⟩
  · refine va_gets (C := "jdk/internal/util/Preconditions") (n := "SIOOBE_FORMATTER") (d := "Ljava/util/function/BiFunction;") (v := .null) hx hb hz hM.2.2.2 hown (hW _ w_344) (fun _ h => h) dST_checkBoundsOffCount_3 ?_
    refine kc_i (va_runS (As := [.int (nI i), .int (nI k), .int (nI n), .null]) (rest := []) (Ts := Wd) ⟨hx, hb, hml, hown, hW⟩ (mPC_checkFromIndexSize_n l g μ (i := i) (k := k) (n := n) (by omega) (by omega)) (va_cwS 4 hW (k_gS w_346 w_347 w_10 w_348) rfl rfl rfl (by decide +kernel) ⟨Nat.le_of_ble_eq_true rfl, Nat.le_of_ble_eq_true rfl⟩) (k_preS hM) rfl rfl hl.1 rfl (lv_room (Nat.le_of_ble_eq_true rfl)) dST_checkBoundsOffCount_6 ⟨Nat.zero_le _, Nat.zero_le _⟩) hM (fun r μ1 H locs hp hM => ?_)
    obtain ⟨rfl, hmu⟩ := hp
    rw [hmu] at hM
    exact kr_i hx hb hr hlocks hM dST_checkBoundsOffCount_9 (⟨by first | rfl | exact bI_t (by omega) | exact bI_f (by omega), rfl⟩)
  · refine va_gets (C := "jdk/internal/util/Preconditions") (n := "SIOOBE_FORMATTER") (d := "Ljava/util/function/BiFunction;") (v := .ref fm) hx hb hz hM.2.2.2 hown (hW _ w_344) (fun _ h => h) dST_checkBoundsOffCount_3 ?_
    refine kc_i (va_runS (As := [.int (nI i), .int (nI k), .int (nI n), .ref fm]) (rest := []) (Ts := Wd) ⟨hx, hb, hml, hown, hW⟩ (mPC_checkFromIndexSize l g μ (i := i) (k := k) (n := n) (fm := fm) (by omega) (by omega)) (va_cwS 4 hW (k_gS w_346 w_347 w_10 w_348) rfl rfl rfl (by decide +kernel) ⟨Nat.le_of_ble_eq_true rfl, Nat.le_of_ble_eq_true rfl⟩) (k_preS hM) rfl rfl hl.1 rfl (lv_room (Nat.le_of_ble_eq_true rfl)) dST_checkBoundsOffCount_6 ⟨Nat.zero_le _, Nat.zero_le _⟩) hM (fun r μ1 H locs hp hM => ?_)
    obtain ⟨rfl, hmu⟩ := hp
    rw [hmu] at hM
    exact kr_i hx hb hr hlocks hM dST_checkBoundsOffCount_9 (⟨by first | rfl | exact bI_t (by omega) | exact bI_f (by omega), rfl⟩)
set_option maxHeartbeats 800000 in
set_option maxRecDepth 100000 in
theorem mST_coder (l : Launch) (g : kG) (μ : km_M) {a va : Nat} (hs : μ a = some (.inr (7, [.ref va, .int (nI 0), .int (nI 0), .int (nI 0)]))) : Met l yST_coder (Cond.code yST_coder cST_coder 1 (some .byte) :: Wd) ({ frames := 0, cells := 0, slots := 0, locals := 0 } : Room) (kPre g μ [.ref a]) (kQi g (fun (r : Int32) (μ1 : km_M) => r = nI 0 ∧ μ1 = μ)) 0 0 (kF g) := by
  refine k_met (by decide) (Nat.le_of_ble_eq_true rfl) ?_
  intro p e s m below meth c hx hb hr hlocks hml hown hnm hW ls hl H locs hM
  have hl : lv_has ls 1 [(0, .ref a)] := hl
  refine va_gets (C := "java/lang/String") (n := "COMPACT_STRINGS") (d := "Z") (v := .int (nI 1)) hx hb (hM.2.1.2.2.2.2.2.1 ("java/lang/String", "COMPACT_STRINGS", "Z", 1) (by decide +kernel)) hM.2.2.2 hown (hW _ w_354) (fun _ h => h) dST_coder_0 ?_
  refine lv_if_eq (tgt := 13) hx hb dST_coder_3 (by decide) (fun h => absurd h (by decide)) (fun _ => ?_)
  refine lv_aload_n hx hb dST_coder_6 rfl (lv_at hl 0 rfl) ?_
  refine k_get (own := RST) (ref := RST) (C := RST) (T := TST) (N := 4) (ci := 7) (v := .int (nI 0)) hx hb hW inST hown hM hs rfl 1 (by decide) (hW _ w_399) (fun _ h => h) rfl dST_coder_7 ?_
  refine lv_goto (tgt := 14) hx hb dST_coder_10 (by decide) ?_
  exact kr_z hx hb hr (by decide) hlocks hM dST_coder_14 (⟨by first | rfl | exact bI_t (by omega) | exact bI_f (by omega), rfl⟩)
set_option maxHeartbeats 800000 in
set_option maxRecDepth 100000 in
theorem mST_isLatin1 (l : Launch) (g : kG) (μ : km_M) {a va : Nat} (hs : μ a = some (.inr (7, [.ref va, .int (nI 0), .int (nI 0), .int (nI 0)]))) : Met l yST_isLatin1 (Cond.code yST_isLatin1 cST_isLatin1 1 (some .boolean) :: Wd) ({ frames := 0, cells := 0, slots := 0, locals := 0 } : Room) (kPre g μ [.ref a]) (kQi g (fun (r : Int32) (μ1 : km_M) => r = nI 1 ∧ μ1 = μ)) 0 0 (kF g) := by
  refine k_met (by decide) (Nat.le_of_ble_eq_true rfl) ?_
  intro p e s m below meth c hx hb hr hlocks hml hown hnm hW ls hl H locs hM
  have hl : lv_has ls 1 [(0, .ref a)] := hl
  refine va_gets (C := "java/lang/String") (n := "COMPACT_STRINGS") (d := "Z") (v := .int (nI 1)) hx hb (hM.2.1.2.2.2.2.2.1 ("java/lang/String", "COMPACT_STRINGS", "Z", 1) (by decide +kernel)) hM.2.2.2 hown (hW _ w_354) (fun _ h => h) dST_isLatin1_0 ?_
  refine lv_if_eq (tgt := 17) hx hb dST_isLatin1_3 (by decide) (fun h => absurd h (by decide)) (fun _ => ?_)
  refine lv_aload_n hx hb dST_isLatin1_6 rfl (lv_at hl 0 rfl) ?_
  refine k_get (own := RST) (ref := RST) (C := RST) (T := TST) (N := 4) (ci := 7) (v := .int (nI 0)) hx hb hW inST hown hM hs rfl 1 (by decide) (hW _ w_399) (fun _ h => h) rfl dST_isLatin1_7 ?_
  refine lv_if_ne (tgt := 17) hx hb dST_isLatin1_10 (by decide) (fun h => absurd (by decide) h) (fun _ => ?_)
  refine lv_iconst (v := nI 1) hx hb dST_isLatin1_13 (by decide) ?_
  refine lv_goto (tgt := 18) hx hb dST_isLatin1_14 (by decide) ?_
  exact kr_z hx hb hr (by decide) hlocks hM dST_isLatin1_18 (⟨by first | rfl | exact bI_t (by omega) | exact bI_f (by omega), rfl⟩)
set_option maxHeartbeats 800000 in
set_option maxRecDepth 100000 in
theorem mST_length (l : Launch) (g : kG) (μ : km_M) {a va n : Nat} {f : Nat → Nat} (hs : μ a = some (.inr (7, [.ref va, .int (nI 0), .int (nI 0), .int (nI 0)]))) (hv : μ va = some (.inl (g.2.2.1 0, n, .inl (fun j => sb (f j))))) (hf : ∀ k, f k < 256) (hn : n ≤ 400) : Met l yST_length (Cond.code yST_length cST_length 1 (some .int) :: Wd) ({ frames := 1, cells := 0, slots := 0, locals := 20 } : Room) (kPre g μ [.ref a]) (kQi g (fun (r : Int32) (μ1 : km_M) => r = nI n ∧ μ1 = μ)) 0 0 (kF g) := by
  refine k_met (by decide) (Nat.le_of_ble_eq_true rfl) ?_
  intro p e s m below meth c hx hb hr hlocks hml hown hnm hW ls hl H locs hM
  have hl : lv_has ls 1 [(0, .ref a)] := hl
  refine lv_aload_n hx hb dST_length_0 rfl (lv_at hl 0 rfl) ?_
  refine k_get (own := RST) (ref := RST) (C := RST) (T := TST) (N := 4) (ci := 7) (v := .ref va) hx hb hW inST hown hM hs rfl 0 (by decide) (hW _ w_398) (fun _ h => h) rfl dST_length_1 ?_
  refine k_alen hx hb hM 0 hv rfl dST_length_4 ?_
  refine lv_aload_n hx hb dST_length_5 rfl (lv_at hl 0 rfl) ?_
  refine kc_i (va_runV (C := RST) (As := []) (b := a) (rest := [.int (nI n)]) (Ts := Wd) ⟨hx, hb, hml, hown, hW⟩ (mST_coder l g μ hs) (cwV 0 hW (k_gV w_434 w_435 w_436 w_9 w_437) rfl rfl rfl (by decide +kernel) ⟨Nat.le_of_ble_eq_true rfl, Nat.le_of_ble_eq_true rfl⟩) (k_preV (q := (RST, TST, 4)) hM hs rfl) rfl rfl hl.1 rfl (lv_room (Nat.le_of_ble_eq_true rfl)) dST_length_6 ⟨Nat.zero_le _, Nat.zero_le _⟩) hM (fun r μ1 H locs hp hM => ?_)
  obtain ⟨rfl, hmu⟩ := hp
  rw [hmu] at hM
  refine lv_ishr hx hb dST_length_9 ?_
  refine topi_eq (y := nI n) (shr_0 (by omega)) ?_
  exact kr_i hx hb hr hlocks hM dST_length_10 (⟨by first | rfl | exact bI_t (by omega) | exact bI_f (by omega), rfl⟩)
set_option maxHeartbeats 800000 in
set_option maxRecDepth 100000 in
theorem mSL_charAt (l : Launch) (g : kG) (μ : km_M) {va n i : Nat} {f : Nat → Nat} (hv : μ va = some (.inl (g.2.2.1 0, n, .inl (fun j => sb (f j))))) (hf : ∀ k, f k < 256) (hn : n ≤ 400) (hi : i < n) : Met l ySL_charAt (Cond.code ySL_charAt cSL_charAt 2 (some .char) :: Wd) ({ frames := 2, cells := 0, slots := 0, locals := 43 } : Room) (kPre g μ [.ref va, .int (nI i)]) (kQi g (fun (r : Int32) (μ1 : km_M) => r = nI (f i) ∧ μ1 = μ)) 0 0 (kF g) := by
  refine k_met (by decide) (Nat.le_of_ble_eq_true rfl) ?_
  intro p e s m below meth c hx hb hr hlocks hml hown hnm hW ls hl H locs hM
  have hl : lv_has ls 2 [(0, .ref va), (1, .int (nI i))] := hl
  refine lv_iload_n hx hb dSL_charAt_0 rfl (lv_at hl 1 rfl) ?_
  refine lv_aload_n hx hb dSL_charAt_1 rfl (lv_at hl 0 rfl) ?_
  refine k_alen hx hb hM 0 hv rfl dSL_charAt_2 ?_
  refine kc_v (va_runS (As := [.int (nI i), .int (nI n)]) (rest := []) (Ts := Wd) ⟨hx, hb, hml, hown, hW⟩ (mST_checkIndex l g μ (i := i) (n := n) (by omega) (by omega)) (va_cwS 2 hW (k_gS w_449 w_450 w_9 w_451) rfl rfl rfl (by decide +kernel) ⟨Nat.le_of_ble_eq_true rfl, Nat.le_of_ble_eq_true rfl⟩) (k_preS hM) rfl rfl hl.1 rfl (lv_room (Nat.le_of_ble_eq_true rfl)) dSL_charAt_3 ⟨Nat.zero_le _, Nat.zero_le _⟩) hM (fun μ1 H locs hp hM => ?_)
  rw [hp] at hM
  refine lv_aload_n hx hb dSL_charAt_6 rfl (lv_at hl 0 rfl) ?_
  refine lv_iload_n hx hb dSL_charAt_7 rfl (lv_at hl 1 rfl) ?_
  refine k_bald (i := i) hx hb hM 0 hv rfl (by omega) (by omega) dSL_charAt_8 ?_
  refine lv_sipush (v := nI 255) hx hb dSL_charAt_9 (by decide) ?_
  refine lv_iand hx hb dSL_charAt_12 ?_
  refine topi_eq (y := nI (f i)) (sb_255 _ (hf i)) ?_
  refine lv_i2c (v := nI (f i)) hx hb dSL_charAt_13 (nI_c (Nat.lt_trans (hf i) (by decide))) ?_
  exact kr_z hx hb hr ((pk_charN (by exact Nat.lt_trans (hf i) (by decide))).1) hlocks hM dSL_charAt_14 (⟨by first | rfl | exact bI_t (by omega) | exact bI_f (by omega), rfl⟩)
set_option maxHeartbeats 800000 in
set_option maxRecDepth 100000 in
theorem mST_charAt (l : Launch) (g : kG) (μ : km_M) {a va n : Nat} {f : Nat → Nat} (hs : μ a = some (.inr (7, [.ref va, .int (nI 0), .int (nI 0), .int (nI 0)]))) (hv : μ va = some (.inl (g.2.2.1 0, n, .inl (fun j => sb (f j))))) (hf : ∀ k, f k < 256) (hn : n ≤ 400) {i : Nat} (hi : i < n) : Met l yST_charAt (Cond.code yST_charAt cST_charAt 2 (some .char) :: Wd) ({ frames := 3, cells := 0, slots := 0, locals := 64 } : Room) (kPre g μ [.ref a, .int (nI i)]) (kQi g (fun (r : Int32) (μ1 : km_M) => r = nI (f i) ∧ μ1 = μ)) 0 0 (kF g) := by
  refine k_met (by decide) (Nat.le_of_ble_eq_true rfl) ?_
  intro p e s m below meth c hx hb hr hlocks hml hown hnm hW ls hl H locs hM
  have hl : lv_has ls 2 [(0, .ref a), (1, .int (nI i))] := hl
  refine lv_aload_n hx hb dST_charAt_0 rfl (lv_at hl 0 rfl) ?_
  refine kc_i (va_runV (C := RST) (As := []) (b := a) (rest := []) (Ts := Wd) ⟨hx, hb, hml, hown, hW⟩ (mST_isLatin1 l g μ hs) (cwV 0 hW (k_gV w_442 w_443 w_444 w_9 w_445) rfl rfl rfl (by decide +kernel) ⟨Nat.le_of_ble_eq_true rfl, Nat.le_of_ble_eq_true rfl⟩) (k_preV (q := (RST, TST, 4)) hM hs rfl) rfl rfl hl.1 rfl (lv_room (Nat.le_of_ble_eq_true rfl)) dST_charAt_1 ⟨Nat.zero_le _, Nat.zero_le _⟩) hM (fun r μ1 H locs hp hM => ?_)
  obtain ⟨rfl, hmu⟩ := hp
  rw [hmu] at hM
  refine lv_if_eq (tgt := 16) hx hb dST_charAt_4 (by decide) (fun h => absurd h (by decide)) (fun _ => ?_)
  refine lv_aload_n hx hb dST_charAt_7 rfl (lv_at hl 0 rfl) ?_
  refine k_get (own := RST) (ref := RST) (C := RST) (T := TST) (N := 4) (ci := 7) (v := .ref va) hx hb hW inST hown hM hs rfl 0 (by decide) (hW _ w_398) (fun _ h => h) rfl dST_charAt_8 ?_
  refine lv_iload_n hx hb dST_charAt_11 rfl (lv_at hl 1 rfl) ?_
  refine kc_i (va_runS (As := [.ref va, .int (nI i)]) (rest := []) (Ts := Wd) ⟨hx, hb, hml, hown, hW⟩ (mSL_charAt l g μ hv hf (by omega) (i := i) (by omega)) (va_cwS 2 hW (k_gS w_446 w_447 w_13 w_448) rfl rfl rfl (by decide +kernel) ⟨Nat.le_of_ble_eq_true rfl, Nat.le_of_ble_eq_true rfl⟩) (k_preS hM) rfl rfl hl.1 rfl (lv_room (Nat.le_of_ble_eq_true rfl)) dST_charAt_12 ⟨Nat.zero_le _, Nat.zero_le _⟩) hM (fun r μ1 H locs hp hM => ?_)
  obtain ⟨rfl, hmu⟩ := hp
  rw [hmu] at hM
  exact kr_z hx hb hr ((pk_charN (by exact Nat.lt_trans (hf i) (by decide))).1) hlocks hM dST_charAt_15 (⟨by first | rfl | exact bI_t (by omega) | exact bI_f (by omega), rfl⟩)
end
section
/-- a piece of a text -/
def sbs (f : Nat → Nat) (i n : Nat) : Nat → Nat := fun j => if j < n then f (i + j) else 0
theorem sbs_lt {f : Nat → Nat} (h : ∀ k, f k < 256) (i n : Nat) : ∀ k, sbs f i n k < 256 := by
  intro k
  simp only [sbs]
  split
  · exact h _
  · decide
theorem cpy_sb {f : Nat → Nat} {sp n : Nat} : va_cpy (fun j => sb (f j)) (fun j => sb ((fun _ => 0) j)) sp 0 n = fun j => sb (sbs f sp n j) := by
  funext j
  simp only [va_cpy, sbs, Nat.zero_le, true_and, Nat.zero_add, Nat.sub_zero]
  split <;> rfl
section KW3
variable {p : Program} {l : Launch} {e : Env} {R : Room} {s : State} {m : MethodId} {args : Array Value} {below : List Frame} {meth : Method} {c : Code} {H : Heap} {locs : List Loc} {cells slots : Nat} {Q : State → Prop}
variable {cc : ByteArray} {pc : Nat} {ls : Array Slot} {rest : List Value} {g : kG} {μ : km_M} {a : Nat}
theorem k_copyb (hx : p.tables.exec = Jvm.exec) (hb : c.code = cc) (hml : c.maxLocals = ls.size) {own : String} {index : Nat} (hown : s.vm.findClass own = some m.cls) (hlink : (Cond.methodLink own index arraycopyName).before args s = true) (hnat : (Cond.native arraycopyName).before args s = true) (hstat : (Cond.static arraycopyName).before args s = true) (hini : (Cond.initialized "java/lang/System").before args s = true)
    (hM : kS g μ s H locs) (t0 : Nat) {a0 : Nat} {cA : ClassId} {n0 n1 : Nat} {f : Nat → Nat} {h f1 : Nat → Int32} (ha0 : μ a0 = some (.inl (cA, n0, .inl (fun j => sb (f j))))) (ha1 : μ a = some (.inl (cA, n1, .inl h))) (ht : (ktys g)[t0]? = some (cA, .byte))
    {sp dp n : Nat} (h4 : sp + n ≤ n0) (h5 : dp + n ≤ n1) (h0 : n0 < 2 ^ 31) (h1 : n1 < 2 ^ 31) (hframes : 1 ≤ R.frames) (hlocals : (rest.map fun v => v.category).sum + (nativeFrameWords "java/lang/System" "arraycopy" 5 + 11) ≤ R.locals) (hdg : decode cc pc = .ok (.invokestatic index, 3)) (hf : va_cpy (fun j => sb (f j)) h sp dp n = f1)
    (kk : ∀ (H1 : Heap) (locs1 : List Loc), kS g (km_up μ a (.inl (cA, n1, .inl f1))) s H1 locs1 → W p l e R s m args below meth c H1 locs1 cells slots Q (F0 m (pc + 3) ls rest)) : W p l e R s m args below meth c H locs cells slots Q (F0 m pc ls (.int (nI n) :: .int (nI dp) :: .ref a :: .int (nI sp) :: .ref a0 :: rest)) := by
  subst hf
  obtain ⟨ws, hP, hD, hr⟩ := hM.2.2.1
  obtain ⟨q0, hq0⟩ := (hr _ _).mp ha0
  obtain ⟨q1, hq1⟩ := (hr _ _).mp ha1
  have e1 : (nI sp).toNatClampNeg = sp := nI_clamp (by omega)
  have e2 : (nI dp).toNatClampNeg = dp := nI_clamp (by omega)
  have e3 : (nI n).toNatClampNeg = n := nI_clamp (by omega)
  refine va_copyi hx hb hml hown hlink hnat hstat hini hM.2.1.1 hP hD hM.2.2.2 q0 q1 t0 t0 hq0 hq1 ht ht rfl (nI_pos (by omega)) (nI_pos (by omega)) (nI_pos (by omega)) (by rw [e1, e3]; exact h4) (by rw [e2, e3]; exact h5) (fun _ _ => pk_fb _) hframes hlocals hdg (fun H1 locs1 hP1 hD1 hS1 => kk H1 locs1 (hM.set hD hr hq1 ?_ ?_ hS1))
  · rw [e1, e2, e3] at hP1
    exact hP1
  · rw [e1, e2, e3] at hD1
    exact hD1
end KW3
theorem sb_of (n : Nat) : (nI n).toInt8.toInt32 = sb n := rfl
theorem cmp_up {f h : Nat → Nat} {i k : Nat} (hh : ∀ j, j < k → h j = f (i + j)) : ∀ j, j < k + 1 → va_up h k (f (i + k)) j = f (i + j) := by
  intro j hj
  by_cases z : j = k
  · rw [z, va_up_self]
  · rw [va_up_ne _ _ z]
    exact hh j (by omega)
theorem cod_0 {n : Nat} : ((nI 0).toUInt32 >>> ((nI 31).toUInt32 &&& Int32.toUInt32 31)).toInt32 = nI 0 := by decide
theorem min_nI {x y : Nat} (h : y ≤ x) (hx : x < 2 ^ 31) : (if nI y < nI x then nI y else nI x) = nI y := by
  split
  · rfl
  · rename_i z
    have z1 := (nJ_lt_f (a := y) (b := x) (by omega) hx).mp z
    rw [show x = y by omega]
set_option maxHeartbeats 800000 in
set_option maxRecDepth 100000 in
theorem mAR_checkLength (l : Launch) (g : kG) (μ : km_M) {x y : Nat} (h : x ≤ y) (hy0 : y ≤ 400) : Met l yAR_checkLength (Cond.code yAR_checkLength cAR_checkLength 2 none :: Wd) ({ frames := 0, cells := 0, slots := 0, locals := 0 } : Room) (kPre g μ [.int (nI x), .int (nI y)]) (kQv g (fun (μ1 : km_M) => μ1 = μ)) 0 0 (kF g) := by
  refine k_met (by decide) (Nat.le_of_ble_eq_true rfl) ?_
  intro p e s m below meth c hx hb hr hlocks hml hown hnm hW ls hl H locs hM
  have hl : lv_has ls 2 [(0, .int (nI x)), (1, .int (nI y))] := hl
  refine lv_iload_n hx hb dAR_checkLength_0 rfl (lv_at hl 1 rfl) ?_
  refine lv_iload_n hx hb dAR_checkLength_1 rfl (lv_at hl 0 rfl) ?_
  refine lv_icmp_ge (tgt := 37) hx hb dAR_checkLength_2 (by decide) (fun h2 => ?_) (fun h2 => ?_)
  · skip
    exact kr_v hx hb hr hlocks hM dAR_checkLength_37 rfl
  · exact absurd (nI_le h (by omega)) h2
set_option maxHeartbeats 800000 in
set_option maxRecDepth 100000 in
theorem mST_init3 (l : Launch) (g : kG) (μ : km_M) {a va : Nat} (hs : μ a = some (.inr (7, [.null, .int (nI 0), .int (nI 0), .int (nI 0)]))) : Met l yST_init3 (Cond.code yST_init3 cST_init3 3 none :: Wd) ({ frames := 1, cells := 0, slots := 0, locals := 40 } : Room) (kPre g μ [.ref a, .ref va, .int (nI 0)]) (kQv g (fun (μ1 : km_M) => μ1 = km_up μ a (.inr (7, [.ref va, .int (nI 0), .int (nI 0), .int (nI 0)])))) 0 0 (kF g) := by
  refine k_met (by decide) (Nat.le_of_ble_eq_true rfl) ?_
  intro p e s m below meth c hx hb hr hlocks hml hown hnm hW ls hl H locs hM
  have hl : lv_has ls 3 [(0, .ref a), (1, .ref va), (2, .int (nI 0))] := hl
  refine lv_aload_n hx hb dST_init3_0 rfl (lv_at hl 0 rfl) ?_
  refine W.objInit hx hb hown (hW _ w_352) (hW _ w_26) (hW _ w_27) rfl (by rw [hml]; exact hl.1) rfl dST_init3_1 (Nat.le_of_ble_eq_true rfl) (Nat.le_of_ble_eq_true rfl) ?_
  refine W.eq (g2 := F0 m 4 ls []) rfl ?_
  refine lv_aload_n hx hb dST_init3_4 rfl (lv_at hl 0 rfl) ?_
  refine lv_aload_n hx hb dST_init3_5 rfl (lv_at hl 1 rfl) ?_
  refine k_putF (own := RST) (ref := RST) (C := RST) (T := TST) (N := 4) (ci := 7) (v := .ref va) (ty := .array .byte) (fs' := [.ref va, .int (nI 0), .int (nI 0), .int (nI 0)]) hx hb hW inST tyST tyokST nmokST hown hM hs rfl 0 (by decide) (hW _ w_398) (fun _ h => h) rfl hnm rfl (by decide +kernel) rfl rfl (Nat.le_of_ble_eq_true rfl) dST_init3_6 rfl (fun H locs hM => ?_)
  have hM : kS g (km_up μ a (.inr (7, [.ref va, .int (nI 0), .int (nI 0), .int (nI 0)]))) s H locs := hM
  refine lv_aload_n hx hb dST_init3_9 rfl (lv_at hl 0 rfl) ?_
  refine lv_iload_n hx hb dST_init3_10 rfl (lv_at hl 2 rfl) ?_
  refine k_putF (own := RST) (ref := RST) (C := RST) (T := TST) (N := 4) (ci := 7) (v := .int (nI 0)) (ty := .byte) (fs' := [.ref va, .int (nI 0), .int (nI 0), .int (nI 0)]) hx hb hW inST tyST tyokST nmokST hown hM (km_s _ _ _) rfl 1 (by decide) (hW _ w_399) (fun _ h => h) rfl hnm rfl (by decide +kernel) (by decide) rfl (Nat.le_of_ble_eq_true rfl) dST_init3_11 rfl (fun H locs hM => ?_)
  have hM : kS g (km_up μ a (.inr (7, [.ref va, .int (nI 0), .int (nI 0), .int (nI 0)]))) s H locs := kS_eq (km_u1 _ _ _ _) hM
  exact kr_v hx hb hr hlocks hM dST_init3_14 rfl
set_option maxHeartbeats 800000 in
set_option maxRecDepth 100000 in
theorem mAR_copyOfRangeByte (l : Launch) (g : kG) (μ : km_M) {va n i tt : Nat} {f : Nat → Nat} (hv : μ va = some (.inl (g.2.2.1 0, n, .inl (fun j => sb (f j))))) (hn : n ≤ 400) (hi : i ≤ tt) (hj : tt ≤ n) : Met l yAR_copyOfRangeByte (Cond.code yAR_copyOfRangeByte cAR_copyOfRangeByte 5 (some (.array .byte)) :: Wd) ({ frames := 1, cells := 1, slots := tt - i, locals := 40 } : Room) (kPre g μ [.ref va, .int (nI i), .int (nI tt)]) (kQr g (fun (r : Nat) (μ1 : km_M) => μ r = none ∧ μ1 = km_up μ r (.inl (g.2.2.1 0, (tt - i), .inl (fun j => sb ((sbs f i (tt - i)) j)))))) 1 (tt - i) (kF g) := by
  refine k_met (by decide) (Nat.le_of_ble_eq_true rfl) ?_
  intro p e s m below meth c hx hb hr hlocks hml hown hnm hW ls hl H locs hM
  have hl : lv_has ls 5 [(0, .ref va), (1, .int (nI i)), (2, .int (nI tt))] := hl
  refine lv_iload_n hx hb dAR_copyOfRangeByte_0 rfl (lv_at hl 1 rfl) ?_
  refine lv_iload_n hx hb dAR_copyOfRangeByte_1 rfl (lv_at hl 2 rfl) ?_
  refine kc_v (va_runS (As := [.int (nI i), .int (nI tt)]) (rest := []) (Ts := Wd) ⟨hx, hb, hml, hown, hW⟩ (mAR_checkLength l g μ (x := i) (y := tt) (by omega) (by omega)) (va_cwS 2 hW (k_gS w_487 w_488 w_14 w_489) rfl rfl rfl (by decide +kernel) ⟨Nat.le_of_ble_eq_true rfl, Nat.le_of_ble_eq_true rfl⟩) (k_preS hM) rfl rfl hl.1 rfl (lv_room (Nat.le_of_ble_eq_true rfl)) dAR_copyOfRangeByte_2 ⟨Nat.zero_le _, Nat.zero_le _⟩) hM (fun μ1 H locs hp hM => ?_)
  rw [hp] at hM
  refine lv_iload_n hx hb dAR_copyOfRangeByte_5 rfl (lv_at hl 2 rfl) ?_
  refine lv_iload_n hx hb dAR_copyOfRangeByte_6 rfl (lv_at hl 1 rfl) ?_
  refine lv_isub hx hb dAR_copyOfRangeByte_7 ?_
  refine topi_eq (y := nI (tt - i)) (pk_sub (a := tt) (b := i) (by omega)) ?_
  refine lv_istore_n (lv' := [(3, .int (nI (tt - i))), (0, .ref va), (1, .int (nI i)), (2, .int (nI tt))]) hx hb dAR_copyOfRangeByte_8 rfl hl (by decide) rfl (fun ls hl => ?_)
  refine lv_iload_n hx hb dAR_copyOfRangeByte_9 rfl (lv_at hl 0 rfl) ?_
  refine k_newa (atype := .byte) (a0 := (tt - i, .inl (fun j => sb ((fun _ => 0) j)))) (N' := tt - i) hx hb (hW _ w_56) rfl hM 0 rfl (fun cA => kz_s cA _) (by omega) (by show _ * 1 ≤ _; omega) (show 0 + 1 ≤ 1 by omega) (show 0 + (tt - i) ≤ tt - i by omega) dAR_copyOfRangeByte_10 (fun q10 H hnq10 hM => ?_)
  have ne_va_q10 : va ≠ q10 := km_apF hv hnq10
  have hM : kS g (km_up μ q10 (.inl (g.2.2.1 0, tt - i, .inl (fun j => sb ((fun _ => 0) j))))) s H locs := hM
  refine W.widen (k := 1) (n := tt - i) (by omega) (by omega) ?_
  refine lv_astore (lv' := [(4, .ref q10), (3, .int (nI (tt - i))), (0, .ref va), (1, .int (nI i)), (2, .int (nI tt))]) hx hb dAR_copyOfRangeByte_12 hl (by decide) rfl (fun ls hl => ?_)
  refine lv_aload_n hx hb dAR_copyOfRangeByte_14 rfl (lv_at hl 2 rfl) ?_
  refine lv_iload_n hx hb dAR_copyOfRangeByte_15 rfl (lv_at hl 3 rfl) ?_
  refine lv_aload hx hb dAR_copyOfRangeByte_16 (lv_at hl 0 rfl) ?_
  refine lv_iconst (v := nI 0) hx hb dAR_copyOfRangeByte_18 (by decide) ?_
  refine lv_aload_n hx hb dAR_copyOfRangeByte_19 rfl (lv_at hl 2 rfl) ?_
  refine k_alen hx hb hM 0 ((km_n ne_va_q10).trans hv) rfl dAR_copyOfRangeByte_20 ?_
  refine lv_iload_n hx hb dAR_copyOfRangeByte_21 rfl (lv_at hl 3 rfl) ?_
  refine lv_isub hx hb dAR_copyOfRangeByte_22 ?_
  refine topi_eq (y := nI (n - i)) (pk_sub (a := n) (b := i) (by omega)) ?_
  refine lv_iload_n hx hb dAR_copyOfRangeByte_23 rfl (lv_at hl 1 rfl) ?_
  refine va_mmin (x := nI (n - i)) (y := nI (tt - i)) hx hb (by rw [hml]; exact hl.1.symm) hown (hW _ w_490) (hW _ w_491) (hW _ w_15) (hW _ w_492) (Nat.le_of_ble_eq_true rfl) (Nat.le_of_ble_eq_true rfl) (show 1 + 0 ≤ 1 by omega) (show (tt - i) + 0 ≤ tt - i by omega) dAR_copyOfRangeByte_24 ?_
  refine topi_eq (y := nI (tt - i)) (min_nI (by omega) (by omega)) ?_
  refine k_copyb (sp := i) (dp := 0) (n := tt - i) (f1 := (fun j => sb ((sbs f i (tt - i)) j))) hx hb (by rw [hml]; exact hl.1.symm) hown (hW _ w_493) (hW _ w_189) (hW _ w_188) (hW _ w_8) hM 0 ((km_n ne_va_q10).trans hv) (km_s _ _ _) rfl (by omega) (by omega) (by omega) (by omega) (Nat.le_of_ble_eq_true rfl) (Nat.le_of_ble_eq_true rfl) dAR_copyOfRangeByte_27 cpy_sb (fun H locs hM => ?_)
  have hM : kS g (km_up μ q10 (.inl (g.2.2.1 0, tt - i, .inl (fun j => sb ((sbs f i (tt - i)) j))))) s H locs := kS_eq (km_u1 _ _ _ _) hM
  refine lv_aload hx hb dAR_copyOfRangeByte_30 (lv_at hl 0 rfl) ?_
  exact kr_r hx hb hr (Or.inr ⟨_, rfl⟩) hlocks hM dAR_copyOfRangeByte_32 (⟨hnq10, rfl⟩)
set_option maxHeartbeats 800000 in
set_option maxRecDepth 100000 in
theorem mAR_copyOfRange (l : Launch) (g : kG) (μ : km_M) {va n i tt : Nat} {f : Nat → Nat} (hv : μ va = some (.inl (g.2.2.1 0, n, .inl (fun j => sb (f j))))) (hn : n ≤ 400) (hi : i ≤ tt) (hj : tt ≤ n) (hij : ¬ (i = 0 ∧ tt = n)) : Met l yAR_copyOfRange (Cond.code yAR_copyOfRange cAR_copyOfRange 3 (some (.array .byte)) :: Wd) ({ frames := 2, cells := 1, slots := tt - i, locals := 64 } : Room) (kPre g μ [.ref va, .int (nI i), .int (nI tt)]) (kQr g (fun (r : Nat) (μ1 : km_M) => μ r = none ∧ μ1 = km_up μ r (.inl (g.2.2.1 0, (tt - i), .inl (fun j => sb ((sbs f i (tt - i)) j)))))) 1 (tt - i) (kF g) := by
  refine k_met (by decide) (Nat.le_of_ble_eq_true rfl) ?_
  intro p e s m below meth c hx hb hr hlocks hml hown hnm hW ls hl H locs hM
  have hl : lv_has ls 3 [(0, .ref va), (1, .int (nI i)), (2, .int (nI tt))] := hl
  refine lv_iload_n hx hb dAR_copyOfRange_0 rfl (lv_at hl 1 rfl) ?_
  refine lv_if_ne (tgt := 10) hx hb dAR_copyOfRange_1 (by decide) (fun h1 => ?_) (fun h1 => ?_)
  · have h1 := (nJ_ne_t (a := i) (b := 0) (by omega) (by omega)).mp h1
    refine lv_aload_n hx hb dAR_copyOfRange_10 rfl (lv_at hl 0 rfl) ?_
    refine lv_iload_n hx hb dAR_copyOfRange_11 rfl (lv_at hl 1 rfl) ?_
    refine lv_iload_n hx hb dAR_copyOfRange_12 rfl (lv_at hl 2 rfl) ?_
    refine kc_r (va_runS (As := [.ref va, .int (nI i), .int (nI tt)]) (rest := []) (Ts := Wd) ⟨hx, hb, hml, hown, hW⟩ (mAR_copyOfRangeByte l g μ hv (i := i) (tt := tt) (by omega) (by omega) (by omega)) (va_cwS 3 hW (k_gS w_484 w_485 w_14 w_486) rfl rfl rfl (by decide +kernel) ⟨Nat.le_of_ble_eq_true rfl, Nat.le_of_ble_eq_true rfl⟩) (k_preS hM) rfl rfl hl.1 rfl (lv_room (Nat.le_of_ble_eq_true rfl)) dAR_copyOfRange_13 ⟨(show 0 + 1 ≤ 1 by omega), (show 0 + (tt - i) ≤ tt - i by omega)⟩) hM (fun c1 μ1 H locs hp hM => ?_)
    obtain ⟨hw1, hmu⟩ := hp
    rw [hmu] at hM
    refine W.widen (k := 1) (n := tt - i) (by omega) (by omega) ?_
    have ne_va_c1 : va ≠ c1 := km_apF hv hw1
    have hM : kS g (km_up μ c1 (.inl (g.2.2.1 0, (tt - i), .inl (fun j => sb ((sbs f i (tt - i)) j))))) s H locs := hM
    exact kr_r hx hb hr (Or.inr ⟨_, rfl⟩) hlocks hM dAR_copyOfRange_16 (⟨hw1, rfl⟩)
  · have h1 := (nJ_ne_f (a := i) (b := 0) (by omega) (by omega)).mp h1
    refine lv_iload_n hx hb dAR_copyOfRange_4 rfl (lv_at hl 2 rfl) ?_
    refine lv_aload_n hx hb dAR_copyOfRange_5 rfl (lv_at hl 0 rfl) ?_
    refine k_alen hx hb hM 0 hv rfl dAR_copyOfRange_6 ?_
    refine lv_icmp_eq (tgt := 17) hx hb dAR_copyOfRange_7 (by decide) (fun h7 => ?_) (fun h7 => ?_)
    · exact absurd ⟨h1, (nJ_eq_t (a := tt) (b := n) (by omega) (by omega)).mp h7⟩ hij
    · skip
      refine lv_aload_n hx hb dAR_copyOfRange_10 rfl (lv_at hl 0 rfl) ?_
      refine lv_iload_n hx hb dAR_copyOfRange_11 rfl (lv_at hl 1 rfl) ?_
      refine lv_iload_n hx hb dAR_copyOfRange_12 rfl (lv_at hl 2 rfl) ?_
      refine kc_r (va_runS (As := [.ref va, .int (nI i), .int (nI tt)]) (rest := []) (Ts := Wd) ⟨hx, hb, hml, hown, hW⟩ (mAR_copyOfRangeByte l g μ hv (i := i) (tt := tt) (by omega) (by omega) (by omega)) (va_cwS 3 hW (k_gS w_484 w_485 w_14 w_486) rfl rfl rfl (by decide +kernel) ⟨Nat.le_of_ble_eq_true rfl, Nat.le_of_ble_eq_true rfl⟩) (k_preS hM) rfl rfl hl.1 rfl (lv_room (Nat.le_of_ble_eq_true rfl)) dAR_copyOfRange_13 ⟨(show 0 + 1 ≤ 1 by omega), (show 0 + (tt - i) ≤ tt - i by omega)⟩) hM (fun c2 μ1 H locs hp hM => ?_)
      obtain ⟨hw2, hmu⟩ := hp
      rw [hmu] at hM
      refine W.widen (k := 1) (n := tt - i) (by omega) (by omega) ?_
      have ne_va_c2 : va ≠ c2 := km_apF hv hw2
      have hM : kS g (km_up μ c2 (.inl (g.2.2.1 0, (tt - i), .inl (fun j => sb ((sbs f i (tt - i)) j))))) s H locs := hM
      exact kr_r hx hb hr (Or.inr ⟨_, rfl⟩) hlocks hM dAR_copyOfRange_16 (⟨hw2, rfl⟩)
set_option maxHeartbeats 800000 in
set_option maxRecDepth 100000 in
theorem mSL_newString (l : Launch) (g : kG) (μ : km_M) {va n i k : Nat} {f : Nat → Nat} (hv : μ va = some (.inl (g.2.2.1 0, n, .inl (fun j => sb (f j))))) (hn : n ≤ 400) (hi : i + k ≤ n) (hk : 0 < k) (hik : ¬ (i = 0 ∧ k = n)) : Met l ySL_newString (Cond.code ySL_newString cSL_newString 3 (some (.object "java/lang/String")) :: Wd) ({ frames := 3, cells := 2, slots := 4 + k, locals := 86 } : Room) (kPre g μ [.ref va, .int (nI i), .int (nI k)]) (kQr g (fun (r : Nat) (μ1 : km_M) => ∃ vb, μ r = none ∧ μ vb = none ∧ vb ≠ r ∧ μ1 = km_up (km_up μ r (.inr (7, [.ref vb, .int (nI 0), .int (nI 0), .int (nI 0)]))) vb (.inl (g.2.2.1 0, k, .inl (fun j => sb ((sbs f i k) j)))))) 2 (4 + k) (kF g) := by
  refine k_met (by decide) (Nat.le_of_ble_eq_true rfl) ?_
  intro p e s m below meth c hx hb hr hlocks hml hown hnm hW ls hl H locs hM
  have hl : lv_has ls 3 [(0, .ref va), (1, .int (nI i)), (2, .int (nI k))] := hl
  refine lv_iload_n hx hb dSL_newString_0 rfl (lv_at hl 2 rfl) ?_
  refine lv_if_ne (tgt := 7) hx hb dSL_newString_1 (by decide) (fun h1 => ?_) (fun h1 => ?_)
  · skip
    refine k_new (own := RSL) (C := RST) (T := TST) (N := 4) (ci := 7) (fs := [.null, .int (nI 0), .int (nI 0), .int (nI 0)]) hx hb hW inST tyST tyokST hown (hW _ w_480) (hW _ w_334) (hW _ w_9) hM rfl (fun j hj => by rcases (show j = 0 ∨ j = 1 ∨ j = 2 ∨ j = 3 by omega) with rfl | rfl | rfl | rfl <;> rfl) (show 0 + 1 ≤ 2 by omega) (show 0 + 4 ≤ 4 + k by omega) dSL_newString_7 (fun q7 H hnq7 hM => ?_)
    have ne_va_q7 : va ≠ q7 := km_apF hv hnq7
    have hM : kS g (km_up μ q7 (.inr (7, [.null, .int (nI 0), .int (nI 0), .int (nI 0)]))) s H locs := hM
    refine W.widen (k := 1) (n := 4) (by omega) (by omega) ?_
    refine lv_dup hx hb dSL_newString_10 rfl ?_
    refine lv_aload_n hx hb dSL_newString_11 rfl (lv_at hl 0 rfl) ?_
    refine lv_iload_n hx hb dSL_newString_12 rfl (lv_at hl 1 rfl) ?_
    refine lv_iload_n hx hb dSL_newString_13 rfl (lv_at hl 1 rfl) ?_
    refine lv_iload_n hx hb dSL_newString_14 rfl (lv_at hl 2 rfl) ?_
    refine lv_iadd hx hb dSL_newString_15 ?_
    refine topi_eq (y := nI (i + k)) (nI_add i k) ?_
    refine kc_r (va_runS (As := [.ref va, .int (nI i), .int (nI (i + k))]) (rest := [.ref q7, .ref q7]) (Ts := Wd) ⟨hx, hb, hml, hown, hW⟩ (mAR_copyOfRange l g (km_up μ q7 (.inr (7, [.null, .int (nI 0), .int (nI 0), .int (nI 0)]))) ((km_n ne_va_q7).trans hv) (i := i) (tt := i + k) (by omega) (by omega) (by omega) (by omega)) (va_cwS 3 hW (k_gS w_481 w_482 w_14 w_483) rfl rfl rfl (by decide +kernel) ⟨Nat.le_of_ble_eq_true rfl, Nat.le_of_ble_eq_true rfl⟩) (k_preS hM) rfl rfl hl.1 rfl (lv_room (Nat.le_of_ble_eq_true rfl)) dSL_newString_16 ⟨(show 1 + 1 ≤ 2 by omega), (show 4 + ((i + k) - i) ≤ 4 + k by omega)⟩) hM (fun c1 μ1 H locs hp hM => ?_)
    obtain ⟨hw1, hmu⟩ := hp
    rw [hmu] at hM
    refine W.widen (k := 2) (n := 4 + ((i + k) - i)) (by omega) (by omega) ?_
    have ne_va_c1 : va ≠ c1 := km_apF ((km_n ne_va_q7).trans hv) hw1
    have ne_q7_c1 : q7 ≠ c1 := km_apF (km_s _ _ _) hw1
    have hM : kS g (km_up (km_up μ q7 (.inr (7, [.null, .int (nI 0), .int (nI 0), .int (nI 0)]))) c1 (.inl (g.2.2.1 0, ((i + k) - i), .inl (fun j => sb ((sbs f i ((i + k) - i)) j))))) s H locs := hM
    refine lv_iconst (v := nI 0) hx hb dSL_newString_19 (by decide) ?_
    refine kc_v (va_runI (As := [.ref c1, .int (nI 0)]) (b := q7) (rest := [.ref q7]) (Ts := Wd) ⟨hx, hb, hml, hown, hW⟩ (mST_init3 l g (km_up (km_up μ q7 (.inr (7, [.null, .int (nI 0), .int (nI 0), .int (nI 0)]))) c1 (.inl (g.2.2.1 0, ((i + k) - i), .inl (fun j => sb ((sbs f i ((i + k) - i)) j))))) ((km_n ne_q7_c1).trans (km_s _ _ _)) (va := c1)) (cwI 2 hW (k_gC w_503) rfl rfl rfl (hW _ w_9) (hW _ w_501) (hW _ w_502) rfl (by decide +kernel) ⟨Nat.le_of_ble_eq_true rfl, Nat.le_of_ble_eq_true rfl⟩) (k_preS hM) rfl rfl hl.1 rfl (lv_room (Nat.le_of_ble_eq_true rfl)) dSL_newString_20 ⟨(show 2 + 0 ≤ 2 by omega), (show (4 + ((i + k) - i)) + 0 ≤ 4 + k by omega)⟩) hM (fun μ1 H locs hp hM => ?_)
    rw [hp] at hM
    have hM : kS g (km_up (km_up (km_up μ q7 (.inr (7, [.null, .int (nI 0), .int (nI 0), .int (nI 0)]))) c1 (.inl (g.2.2.1 0, ((i + k) - i), .inl (fun j => sb ((sbs f i ((i + k) - i)) j))))) q7 (.inr (7, [.ref c1, .int (nI 0), .int (nI 0), .int (nI 0)]))) s H locs := hM
    have hM : kS g (km_up (km_up μ q7 (.inr (7, [.ref c1, .int (nI 0), .int (nI 0), .int (nI 0)]))) c1 (.inl (g.2.2.1 0, ((i + k) - i), .inl (fun j => sb ((sbs f i ((i + k) - i)) j))))) s H locs := kS_eq (km_u2 _ _ _ _ ne_q7_c1) hM
    refine W.widen (k := 2) (n := 4 + k) (by omega) (by omega) ?_
    exact kr_r hx hb hr (Or.inl ⟨_, rfl⟩) hlocks hM dSL_newString_23 (⟨_, hnq7, (km_none hw1).2, (km_none hw1).1, by rw [show i + k - i = k by omega]⟩)
  · exact absurd ((nJ_eq_t (a := k) (b := 0) (by omega) (by omega)).mp h1) (by omega)
end
