-- ===== PART A: goes FIRST, ahead of the names: the tables' words, and 'selects' of the private methods out of them =====
/-- a private method of a class that the tables say can be made, by its rows of tables_1 -/
def lw_okq (q : MethodName × Nat) : Prop := (q.1.cls ≠ "java/lang/invoke/MethodHandle" ∧ q.1.cls ≠ "java/lang/invoke/VarHandle") ∧ Cond.instantiable q.1.cls q.2 ∈ tables_1 ∧ Cond.privateMethod q.1 ∈ tables_1 ∧ Cond.instanceMethod q.1 ∈ tables_1
theorem lw_p0 : lw_okq (⟨"PurseRing", "added", "(LPurseRing$Ring;)I"⟩, 4) := ⟨⟨by decide +kernel, by decide +kernel⟩, List.mem_of_getElem? (i := 10) (by decide +kernel), List.mem_of_getElem? (i := 222) (by decide +kernel), List.mem_of_getElem? (i := 223) (by decide +kernel)⟩
theorem lw_p1 : lw_okq (⟨"PurseRing", "found", "(I)LPurseRing$Ring;"⟩, 4) := ⟨⟨by decide +kernel, by decide +kernel⟩, List.mem_of_getElem? (i := 10) (by decide +kernel), List.mem_of_getElem? (i := 230) (by decide +kernel), List.mem_of_getElem? (i := 231) (by decide +kernel)⟩
theorem lw_p2 : lw_okq (⟨"PurseRingModel", "set", "(IIJ)V"⟩, 8) := ⟨⟨by decide +kernel, by decide +kernel⟩, List.mem_of_getElem? (i := 705) (by decide +kernel), List.mem_of_getElem? (i := 745) (by decide +kernel), List.mem_of_getElem? (i := 746) (by decide +kernel)⟩
theorem lw_p3 : lw_okq (⟨"PurseRingModel", "isRing", "(I)Z"⟩, 8) := ⟨⟨by decide +kernel, by decide +kernel⟩, List.mem_of_getElem? (i := 705) (by decide +kernel), List.mem_of_getElem? (i := 757) (by decide +kernel), List.mem_of_getElem? (i := 758) (by decide +kernel)⟩
theorem lw_p4 : lw_okq (⟨"PurseRingModel", "get", "(II)J"⟩, 8) := ⟨⟨by decide +kernel, by decide +kernel⟩, List.mem_of_getElem? (i := 705) (by decide +kernel), List.mem_of_getElem? (i := 761) (by decide +kernel), List.mem_of_getElem? (i := 762) (by decide +kernel)⟩
theorem lw_p5 : lw_okq (⟨"PurseRingModel", "isMember", "(II)Z"⟩, 8) := ⟨⟨by decide +kernel, by decide +kernel⟩, List.mem_of_getElem? (i := 705) (by decide +kernel), List.mem_of_getElem? (i := 777) (by decide +kernel), List.mem_of_getElem? (i := 778) (by decide +kernel)⟩
theorem lw_p6 : lw_okq (⟨"PurseRingModel", "isTold", "(II)Z"⟩, 8) := ⟨⟨by decide +kernel, by decide +kernel⟩, List.mem_of_getElem? (i := 705) (by decide +kernel), List.mem_of_getElem? (i := 786) (by decide +kernel), List.mem_of_getElem? (i := 787) (by decide +kernel)⟩
theorem lw_p7 : lw_okq (⟨"PurseRingModel", "more", "(IIJ)V"⟩, 8) := ⟨⟨by decide +kernel, by decide +kernel⟩, List.mem_of_getElem? (i := 705) (by decide +kernel), List.mem_of_getElem? (i := 790) (by decide +kernel), List.mem_of_getElem? (i := 791) (by decide +kernel)⟩
theorem lw_p8 : lw_okq (⟨"PurseRingModel", "against", "(II)I"⟩, 8) := ⟨⟨by decide +kernel, by decide +kernel⟩, List.mem_of_getElem? (i := 705) (by decide +kernel), List.mem_of_getElem? (i := 807) (by decide +kernel), List.mem_of_getElem? (i := 808) (by decide +kernel)⟩
theorem lw_p9 : lw_okq (⟨"PurseRingModel", "isPlace", "(II)Z"⟩, 8) := ⟨⟨by decide +kernel, by decide +kernel⟩, List.mem_of_getElem? (i := 705) (by decide +kernel), List.mem_of_getElem? (i := 811) (by decide +kernel), List.mem_of_getElem? (i := 812) (by decide +kernel)⟩
theorem lw_p10 : lw_okq (⟨"PurseRingModel", "isStopped", "(II)Z"⟩, 8) := ⟨⟨by decide +kernel, by decide +kernel⟩, List.mem_of_getElem? (i := 705) (by decide +kernel), List.mem_of_getElem? (i := 815) (by decide +kernel), List.mem_of_getElem? (i := 816) (by decide +kernel)⟩
theorem lw_p11 : lw_okq (⟨"PurseRingModel", "rowGoes", "(I)V"⟩, 8) := ⟨⟨by decide +kernel, by decide +kernel⟩, List.mem_of_getElem? (i := 705) (by decide +kernel), List.mem_of_getElem? (i := 824) (by decide +kernel), List.mem_of_getElem? (i := 825) (by decide +kernel)⟩
theorem lw_p12 : lw_okq (⟨"PurseRingModel", "comesBack", "(II)V"⟩, 8) := ⟨⟨by decide +kernel, by decide +kernel⟩, List.mem_of_getElem? (i := 705) (by decide +kernel), List.mem_of_getElem? (i := 828) (by decide +kernel), List.mem_of_getElem? (i := 829) (by decide +kernel)⟩
theorem lw_p13 : lw_okq (⟨"PurseRingModel", "againstKind", "(II)I"⟩, 8) := ⟨⟨by decide +kernel, by decide +kernel⟩, List.mem_of_getElem? (i := 705) (by decide +kernel), List.mem_of_getElem? (i := 853) (by decide +kernel), List.mem_of_getElem? (i := 854) (by decide +kernel)⟩
theorem lw_p14 : lw_okq (⟨"PurseRingModel", "purse", "(I)J"⟩, 8) := ⟨⟨by decide +kernel, by decide +kernel⟩, List.mem_of_getElem? (i := 705) (by decide +kernel), List.mem_of_getElem? (i := 857) (by decide +kernel), List.mem_of_getElem? (i := 858) (by decide +kernel)⟩
theorem lw_p15 : lw_okq (⟨"PurseRingModel", "nobodySays", "(I)V"⟩, 8) := ⟨⟨by decide +kernel, by decide +kernel⟩, List.mem_of_getElem? (i := 705) (by decide +kernel), List.mem_of_getElem? (i := 865) (by decide +kernel), List.mem_of_getElem? (i := 866) (by decide +kernel)⟩
def lw_privs_1 : List (MethodName × Nat) := [(⟨"PurseRing", "added", "(LPurseRing$Ring;)I"⟩, 4), (⟨"PurseRing", "found", "(I)LPurseRing$Ring;"⟩, 4), (⟨"PurseRingModel", "set", "(IIJ)V"⟩, 8), (⟨"PurseRingModel", "isRing", "(I)Z"⟩, 8), (⟨"PurseRingModel", "get", "(II)J"⟩, 8), (⟨"PurseRingModel", "isMember", "(II)Z"⟩, 8), (⟨"PurseRingModel", "isTold", "(II)Z"⟩, 8), (⟨"PurseRingModel", "more", "(IIJ)V"⟩, 8), (⟨"PurseRingModel", "against", "(II)I"⟩, 8), (⟨"PurseRingModel", "isPlace", "(II)Z"⟩, 8), (⟨"PurseRingModel", "isStopped", "(II)Z"⟩, 8), (⟨"PurseRingModel", "rowGoes", "(I)V"⟩, 8), (⟨"PurseRingModel", "comesBack", "(II)V"⟩, 8), (⟨"PurseRingModel", "againstKind", "(II)I"⟩, 8), (⟨"PurseRingModel", "purse", "(I)J"⟩, 8), (⟨"PurseRingModel", "nobodySays", "(I)V"⟩, 8)]
theorem lw_r1 : ∀ q ∈ lw_privs_1, lw_okq q := List.forall_mem_cons.mpr ⟨lw_p0, List.forall_mem_cons.mpr ⟨lw_p1, List.forall_mem_cons.mpr ⟨lw_p2, List.forall_mem_cons.mpr ⟨lw_p3, List.forall_mem_cons.mpr ⟨lw_p4, List.forall_mem_cons.mpr ⟨lw_p5, List.forall_mem_cons.mpr ⟨lw_p6, List.forall_mem_cons.mpr ⟨lw_p7, List.forall_mem_cons.mpr ⟨lw_p8, List.forall_mem_cons.mpr ⟨lw_p9, List.forall_mem_cons.mpr ⟨lw_p10, List.forall_mem_cons.mpr ⟨lw_p11, List.forall_mem_cons.mpr ⟨lw_p12, List.forall_mem_cons.mpr ⟨lw_p13, List.forall_mem_cons.mpr ⟨lw_p14, List.forall_mem_cons.mpr ⟨lw_p15, fun _ h => absurd h List.not_mem_nil⟩⟩⟩⟩⟩⟩⟩⟩⟩⟩⟩⟩⟩⟩⟩⟩
theorem lw_p16 : lw_okq (⟨"PurseRingModel", "keeps", "(I)V"⟩, 8) := ⟨⟨by decide +kernel, by decide +kernel⟩, List.mem_of_getElem? (i := 705) (by decide +kernel), List.mem_of_getElem? (i := 877) (by decide +kernel), List.mem_of_getElem? (i := 878) (by decide +kernel)⟩
theorem lw_p17 : lw_okq (⟨"PurseRingModel", "lacks", "(I)J"⟩, 8) := ⟨⟨by decide +kernel, by decide +kernel⟩, List.mem_of_getElem? (i := 705) (by decide +kernel), List.mem_of_getElem? (i := 881) (by decide +kernel), List.mem_of_getElem? (i := 882) (by decide +kernel)⟩
theorem lw_p18 : lw_okq (⟨"PurseRingModel", "who", "(I)I"⟩, 8) := ⟨⟨by decide +kernel, by decide +kernel⟩, List.mem_of_getElem? (i := 705) (by decide +kernel), List.mem_of_getElem? (i := 886) (by decide +kernel), List.mem_of_getElem? (i := 887) (by decide +kernel)⟩
theorem lw_p19 : lw_okq (⟨"PurseRingModel", "byOrder", "(I)I"⟩, 8) := ⟨⟨by decide +kernel, by decide +kernel⟩, List.mem_of_getElem? (i := 705) (by decide +kernel), List.mem_of_getElem? (i := 890) (by decide +kernel), List.mem_of_getElem? (i := 891) (by decide +kernel)⟩
theorem lw_p20 : lw_okq (⟨"PurseRingModel", "isAble", "(II)Z"⟩, 8) := ⟨⟨by decide +kernel, by decide +kernel⟩, List.mem_of_getElem? (i := 705) (by decide +kernel), List.mem_of_getElem? (i := 894) (by decide +kernel), List.mem_of_getElem? (i := 895) (by decide +kernel)⟩
theorem lw_p21 : lw_okq (⟨"PurseRingModel", "isNeither", "(II)Z"⟩, 8) := ⟨⟨by decide +kernel, by decide +kernel⟩, List.mem_of_getElem? (i := 705) (by decide +kernel), List.mem_of_getElem? (i := 898) (by decide +kernel), List.mem_of_getElem? (i := 899) (by decide +kernel)⟩
theorem lw_p22 : lw_okq (⟨"PurseRingModel", "firstAble", "(I)I"⟩, 8) := ⟨⟨by decide +kernel, by decide +kernel⟩, List.mem_of_getElem? (i := 705) (by decide +kernel), List.mem_of_getElem? (i := 902) (by decide +kernel), List.mem_of_getElem? (i := 903) (by decide +kernel)⟩
theorem lw_p23 : lw_okq (⟨"PurseRingModel", "byLot", "(I)I"⟩, 8) := ⟨⟨by decide +kernel, by decide +kernel⟩, List.mem_of_getElem? (i := 705) (by decide +kernel), List.mem_of_getElem? (i := 906) (by decide +kernel), List.mem_of_getElem? (i := 907) (by decide +kernel)⟩
theorem lw_p24 : lw_okq (⟨"PurseRingModel", "byBid", "(I)I"⟩, 8) := ⟨⟨by decide +kernel, by decide +kernel⟩, List.mem_of_getElem? (i := 705) (by decide +kernel), List.mem_of_getElem? (i := 910) (by decide +kernel), List.mem_of_getElem? (i := 911) (by decide +kernel)⟩
theorem lw_p25 : lw_okq (⟨"PurseRingModel", "byNeed", "(I)I"⟩, 8) := ⟨⟨by decide +kernel, by decide +kernel⟩, List.mem_of_getElem? (i := 705) (by decide +kernel), List.mem_of_getElem? (i := 914) (by decide +kernel), List.mem_of_getElem? (i := 915) (by decide +kernel)⟩
theorem lw_p26 : lw_okq (⟨"PurseRingModel", "said", "(I)J"⟩, 8) := ⟨⟨by decide +kernel, by decide +kernel⟩, List.mem_of_getElem? (i := 705) (by decide +kernel), List.mem_of_getElem? (i := 918) (by decide +kernel), List.mem_of_getElem? (i := 919) (by decide +kernel)⟩
theorem lw_p27 : lw_okq (⟨"PurseRingModel", "neither", "(I)J"⟩, 8) := ⟨⟨by decide +kernel, by decide +kernel⟩, List.mem_of_getElem? (i := 705) (by decide +kernel), List.mem_of_getElem? (i := 922) (by decide +kernel), List.mem_of_getElem? (i := 923) (by decide +kernel)⟩
theorem lw_p28 : lw_okq (⟨"PurseRingModel", "draws", "(IIJ)J"⟩, 8) := ⟨⟨by decide +kernel, by decide +kernel⟩, List.mem_of_getElem? (i := 705) (by decide +kernel), List.mem_of_getElem? (i := 926) (by decide +kernel), List.mem_of_getElem? (i := 927) (by decide +kernel)⟩
theorem lw_p29 : lw_okq (⟨"PurseRingModel", "isOther", "(III)Z"⟩, 8) := ⟨⟨by decide +kernel, by decide +kernel⟩, List.mem_of_getElem? (i := 705) (by decide +kernel), List.mem_of_getElem? (i := 930) (by decide +kernel), List.mem_of_getElem? (i := 931) (by decide +kernel)⟩
theorem lw_p30 : lw_okq (⟨"PurseRingModel", "shares", "(IIJJ)V"⟩, 8) := ⟨⟨by decide +kernel, by decide +kernel⟩, List.mem_of_getElem? (i := 705) (by decide +kernel), List.mem_of_getElem? (i := 934) (by decide +kernel), List.mem_of_getElem? (i := 935) (by decide +kernel)⟩
theorem lw_p31 : lw_okq (⟨"PurseRingModel", "backComes", "(II)V"⟩, 8) := ⟨⟨by decide +kernel, by decide +kernel⟩, List.mem_of_getElem? (i := 705) (by decide +kernel), List.mem_of_getElem? (i := 950) (by decide +kernel), List.mem_of_getElem? (i := 951) (by decide +kernel)⟩
def lw_privs_2 : List (MethodName × Nat) := [(⟨"PurseRingModel", "keeps", "(I)V"⟩, 8), (⟨"PurseRingModel", "lacks", "(I)J"⟩, 8), (⟨"PurseRingModel", "who", "(I)I"⟩, 8), (⟨"PurseRingModel", "byOrder", "(I)I"⟩, 8), (⟨"PurseRingModel", "isAble", "(II)Z"⟩, 8), (⟨"PurseRingModel", "isNeither", "(II)Z"⟩, 8), (⟨"PurseRingModel", "firstAble", "(I)I"⟩, 8), (⟨"PurseRingModel", "byLot", "(I)I"⟩, 8), (⟨"PurseRingModel", "byBid", "(I)I"⟩, 8), (⟨"PurseRingModel", "byNeed", "(I)I"⟩, 8), (⟨"PurseRingModel", "said", "(I)J"⟩, 8), (⟨"PurseRingModel", "neither", "(I)J"⟩, 8), (⟨"PurseRingModel", "draws", "(IIJ)J"⟩, 8), (⟨"PurseRingModel", "isOther", "(III)Z"⟩, 8), (⟨"PurseRingModel", "shares", "(IIJJ)V"⟩, 8), (⟨"PurseRingModel", "backComes", "(II)V"⟩, 8)]
theorem lw_r2 : ∀ q ∈ lw_privs_2, lw_okq q := List.forall_mem_cons.mpr ⟨lw_p16, List.forall_mem_cons.mpr ⟨lw_p17, List.forall_mem_cons.mpr ⟨lw_p18, List.forall_mem_cons.mpr ⟨lw_p19, List.forall_mem_cons.mpr ⟨lw_p20, List.forall_mem_cons.mpr ⟨lw_p21, List.forall_mem_cons.mpr ⟨lw_p22, List.forall_mem_cons.mpr ⟨lw_p23, List.forall_mem_cons.mpr ⟨lw_p24, List.forall_mem_cons.mpr ⟨lw_p25, List.forall_mem_cons.mpr ⟨lw_p26, List.forall_mem_cons.mpr ⟨lw_p27, List.forall_mem_cons.mpr ⟨lw_p28, List.forall_mem_cons.mpr ⟨lw_p29, List.forall_mem_cons.mpr ⟨lw_p30, List.forall_mem_cons.mpr ⟨lw_p31, fun _ h => absurd h List.not_mem_nil⟩⟩⟩⟩⟩⟩⟩⟩⟩⟩⟩⟩⟩⟩⟩⟩
theorem lw_p32 : lw_okq (⟨"PurseRingModel", "isFull", "(II)Z"⟩, 8) := ⟨⟨by decide +kernel, by decide +kernel⟩, List.mem_of_getElem? (i := 705) (by decide +kernel), List.mem_of_getElem? (i := 966) (by decide +kernel), List.mem_of_getElem? (i := 967) (by decide +kernel)⟩
theorem lw_p33 : lw_okq (⟨"PurseRingModel", "latestCopy", "(I)I"⟩, 8) := ⟨⟨by decide +kernel, by decide +kernel⟩, List.mem_of_getElem? (i := 705) (by decide +kernel), List.mem_of_getElem? (i := 978) (by decide +kernel), List.mem_of_getElem? (i := 979) (by decide +kernel)⟩
theorem lw_p34 : lw_okq (⟨"PurseRingModel", "copiesOf", "(I)I"⟩, 8) := ⟨⟨by decide +kernel, by decide +kernel⟩, List.mem_of_getElem? (i := 705) (by decide +kernel), List.mem_of_getElem? (i := 1008) (by decide +kernel), List.mem_of_getElem? (i := 1009) (by decide +kernel)⟩
def lw_privs_3 : List (MethodName × Nat) := [(⟨"PurseRingModel", "isFull", "(II)Z"⟩, 8), (⟨"PurseRingModel", "latestCopy", "(I)I"⟩, 8), (⟨"PurseRingModel", "copiesOf", "(I)I"⟩, 8)]
theorem lw_r3 : ∀ q ∈ lw_privs_3, lw_okq q := List.forall_mem_cons.mpr ⟨lw_p32, List.forall_mem_cons.mpr ⟨lw_p33, List.forall_mem_cons.mpr ⟨lw_p34, fun _ h => absurd h List.not_mem_nil⟩⟩⟩
def lw_privs : List (MethodName × Nat) := lw_privs_1 ++ (lw_privs_2 ++ (lw_privs_3))
def lw_tbl : List Cond := k2_sels lw_privs ++ tables_1
theorem lw_privs_ok : ∀ q ∈ lw_privs, lw_okq q := by
  show ∀ q ∈ lw_privs_1 ++ (lw_privs_2 ++ (lw_privs_3)), lw_okq q
  exact List.forall_mem_append.mpr ⟨lw_r1, List.forall_mem_append.mpr ⟨lw_r2, lw_r3⟩⟩
def RX0 : String := "PurseRing$Book"
def TX0 : u_T := fun k => match k with
  | 0 => ("PurseRing$Book", "seats", "[LPurseRing$Place;", true)
  | 1 => ("PurseRing$Book", "state", "I", false)
  | 2 => ("PurseRing$Book", "round", "I", false)
  | 3 => ("PurseRing$Book", "places", "I", false)
  | 4 => ("PurseRing$Book", "cells", "I", false)
  | 5 => ("PurseRing$Book", "asks", "I", false)
  | 6 => ("PurseRing$Book", "lotCount", "I", false)
  | 7 => ("PurseRing$Book", "stopCount", "I", false)
  | 8 => ("PurseRing$Book", "chest", "J", false)
  | _ => ("PurseRing$Book", "fines", "J", false)
def tyX0 : Nat → FieldType := fun k => match k with
  | 0 => .array (.object "PurseRing$Place")
  | 1 => .int
  | 2 => .int
  | 3 => .int
  | 4 => .int
  | 5 => .int
  | 6 => .int
  | 7 => .int
  | 8 => .long
  | _ => .long
abbrev wsX00 : List Cond := u_ws RX0 TX0 10
theorem nmX0 : ∀ a, a < 10 → ∀ b, b < 10 → a ≠ b → (TX0 a).2.1 ≠ (TX0 b).2.1 := by decide +kernel
theorem tyX0_ok : ∀ k, k < 10 → parseFieldDescriptor (TX0 k).2.2.1 = some (tyX0 k) := by decide +kernel
abbrev cX0_init : ByteArray := prog_2_method_1_code
def yX0_init : MethodName := ⟨RX0, "<init>", "()V"⟩
abbrev cX0_copyFrom : ByteArray := prog_2_method_2_code
def yX0_copyFrom : MethodName := ⟨RX0, "copyFrom", "(LPurseRing$Book;)V"⟩
abbrev cX0_seatAt : ByteArray := prog_2_method_3_code
def yX0_seatAt : MethodName := ⟨RX0, "seatAt", "(I)LPurseRing$Place;"⟩
abbrev cX0_memberAt : ByteArray := prog_2_method_4_code
def yX0_memberAt : MethodName := ⟨RX0, "memberAt", "(I)LPurseRing$Place;"⟩
abbrev cX0_placeAt : ByteArray := prog_2_method_5_code
def yX0_placeAt : MethodName := ⟨RX0, "placeAt", "(I)LPurseRing$Place;"⟩
abbrev cX0_roundIsLeft : ByteArray := prog_2_method_6_code
def yX0_roundIsLeft : MethodName := ⟨RX0, "roundIsLeft", "()Z"⟩
abbrev cX0_countMembers : ByteArray := prog_2_method_7_code
def yX0_countMembers : MethodName := ⟨RX0, "countMembers", "()I"⟩
abbrev cX0_countNeither : ByteArray := prog_2_method_8_code
def yX0_countNeither : MethodName := ⟨RX0, "countNeither", "()I"⟩
abbrev cX0_countYes : ByteArray := prog_2_method_9_code
def yX0_countYes : MethodName := ⟨RX0, "countYes", "()I"⟩
abbrev cX0_countAble : ByteArray := prog_2_method_10_code
def yX0_countAble : MethodName := ⟨RX0, "countAble", "()I"⟩
abbrev cX0_ableNumber : ByteArray := prog_2_method_11_code
def yX0_ableNumber : MethodName := ⟨RX0, "ableNumber", "(J)I"⟩
abbrev cX0_letterOn : ByteArray := prog_2_method_12_code
def yX0_letterOn : MethodName := ⟨RX0, "letterOn", "(I)I"⟩
abbrev cX0_cellOf : ByteArray := prog_2_method_13_code
def yX0_cellOf : MethodName := ⟨RX0, "cellOf", "(I)I"⟩
abbrev cX0_valueOf : ByteArray := prog_2_method_14_code
def yX0_valueOf : MethodName := ⟨RX0, "valueOf", "(II)J"⟩
abbrev cX0_forgetYes : ByteArray := prog_2_method_15_code
def yX0_forgetYes : MethodName := ⟨RX0, "forgetYes", "()V"⟩
abbrev cX0_dropEmptySureties : ByteArray := prog_2_method_16_code
def yX0_dropEmptySureties : MethodName := ⟨RX0, "dropEmptySureties", "()V"⟩
abbrev cX0_replaceRow : ByteArray := prog_2_method_17_code
def yX0_replaceRow : MethodName := ⟨RX0, "replaceRow", "(I)V"⟩
abbrev cX0_forgetRound : ByteArray := prog_2_method_18_code
def yX0_forgetRound : MethodName := ⟨RX0, "forgetRound", "()V"⟩
def RX1 : String := "PurseRing$Place"
def TX1 : u_T := fun k => match k with
  | 0 => ("PurseRing$Place", "holds", "I", false)
  | 1 => ("PurseRing$Place", "letter", "I", false)
  | 2 => ("PurseRing$Place", "surety", "I", false)
  | 3 => ("PurseRing$Place", "drew", "Z", false)
  | 4 => ("PurseRing$Place", "stopped", "Z", false)
  | 5 => ("PurseRing$Place", "full", "Z", false)
  | 6 => ("PurseRing$Place", "debt", "J", false)
  | 7 => ("PurseRing$Place", "claim", "J", false)
  | 8 => ("PurseRing$Place", "deposit", "J", false)
  | 9 => ("PurseRing$Place", "paid", "J", false)
  | 10 => ("PurseRing$Place", "drewCoins", "J", false)
  | 11 => ("PurseRing$Place", "shared", "J", false)
  | 12 => ("PurseRing$Place", "back", "J", false)
  | 13 => ("PurseRing$Place", "cell", "I", false)
  | 14 => ("PurseRing$Place", "firstPaid", "Z", false)
  | 15 => ("PurseRing$Place", "secondPaid", "Z", false)
  | 16 => ("PurseRing$Place", "offer", "J", false)
  | _ => ("PurseRing$Place", "saidYes", "Z", false)
def tyX1 : Nat → FieldType := fun k => match k with
  | 0 => .int
  | 1 => .int
  | 2 => .int
  | 3 => .boolean
  | 4 => .boolean
  | 5 => .boolean
  | 6 => .long
  | 7 => .long
  | 8 => .long
  | 9 => .long
  | 10 => .long
  | 11 => .long
  | 12 => .long
  | 13 => .int
  | 14 => .boolean
  | 15 => .boolean
  | 16 => .long
  | _ => .boolean
abbrev wsX10 : List Cond := u_ws RX1 TX1 18
theorem nmX1 : ∀ a, a < 18 → ∀ b, b < 18 → a ≠ b → (TX1 a).2.1 ≠ (TX1 b).2.1 := by decide +kernel
theorem tyX1_ok : ∀ k, k < 18 → parseFieldDescriptor (TX1 k).2.2.1 = some (tyX1 k) := by decide +kernel
abbrev cX1_init : ByteArray := prog_3_method_1_code
def yX1_init : MethodName := ⟨RX1, "<init>", "()V"⟩
abbrev cX1_copyFrom : ByteArray := prog_3_method_2_code
def yX1_copyFrom : MethodName := ⟨RX1, "copyFrom", "(LPurseRing$Place;)V"⟩
abbrev cX1_isMember : ByteArray := prog_3_method_3_code
def yX1_isMember : MethodName := ⟨RX1, "isMember", "()Z"⟩
abbrev cX1_isGoing : ByteArray := prog_3_method_4_code
def yX1_isGoing : MethodName := ⟨RX1, "isGoing", "()Z"⟩
abbrev cX1_isNeither : ByteArray := prog_3_method_5_code
def yX1_isNeither : MethodName := ⟨RX1, "isNeither", "()Z"⟩
abbrev cX1_isAble : ByteArray := prog_3_method_6_code
def yX1_isAble : MethodName := ⟨RX1, "isAble", "()Z"⟩
abbrev cX1_emptyCell : ByteArray := prog_3_method_7_code
def yX1_emptyCell : MethodName := ⟨RX1, "emptyCell", "()V"⟩
abbrev cX1_takeCellBack : ByteArray := prog_3_method_8_code
def yX1_takeCellBack : MethodName := ⟨RX1, "takeCellBack", "()V"⟩
abbrev cX1_takeDepositBack : ByteArray := prog_3_method_9_code
def yX1_takeDepositBack : MethodName := ⟨RX1, "takeDepositBack", "()V"⟩
abbrev cX1_valueOf : ByteArray := prog_3_method_10_code
def yX1_valueOf : MethodName := ⟨RX1, "valueOf", "(I)J"⟩
def RX2 : String := "PurseRing$Ring"
def TX2 : u_T := fun k => match k with
  | 0 => ("PurseRing$Ring", "kind", "I", true)
  | 1 => ("PurseRing$Ring", "payment", "J", true)
  | 2 => ("PurseRing$Ring", "fine", "J", true)
  | 3 => ("PurseRing$Ring", "told", "[I", true)
  | 4 => ("PurseRing$Ring", "toldCount", "I", false)
  | 5 => ("PurseRing$Ring", "lots", "[I", true)
  | 6 => ("PurseRing$Ring", "kept", "[J", true)
  | 7 => ("PurseRing$Ring", "stopped", "[LPurseRing$Stop;", true)
  | 8 => ("PurseRing$Ring", "now", "LPurseRing$Book;", true)
  | 9 => ("PurseRing$Ring", "ahead", "[LPurseRing$Book;", true)
  | _ => ("PurseRing$Ring", "firstOwn", "I", false)
def tyX2 : Nat → FieldType := fun k => match k with
  | 0 => .int
  | 1 => .long
  | 2 => .long
  | 3 => .array .int
  | 4 => .int
  | 5 => .array .int
  | 6 => .array .long
  | 7 => .array (.object "PurseRing$Stop")
  | 8 => .object "PurseRing$Book"
  | 9 => .array (.object "PurseRing$Book")
  | _ => .int
abbrev wsX20 : List Cond := u_ws RX2 TX2 11
theorem nmX2 : ∀ a, a < 11 → ∀ b, b < 11 → a ≠ b → (TX2 a).2.1 ≠ (TX2 b).2.1 := by decide +kernel
theorem tyX2_ok : ∀ k, k < 11 → parseFieldDescriptor (TX2 k).2.2.1 = some (tyX2 k) := by decide +kernel
abbrev cX2_init : ByteArray := prog_4_method_1_code
def yX2_init : MethodName := ⟨RX2, "<init>", "(IJJJ)V"⟩
abbrev cX2_imageOfThis : ByteArray := prog_4_method_2_code
def yX2_imageOfThis : MethodName := ⟨RX2, "imageOfThis", "()LPurseRing$Ring;"⟩
abbrev cX2_purse : ByteArray := prog_4_method_3_code
def yX2_purse : MethodName := ⟨RX2, "purse", "()J"⟩
abbrev cX2_seatOther : ByteArray := prog_4_method_4_code
def yX2_seatOther : MethodName := ⟨RX2, "seatOther", "(III)I"⟩
abbrev cX2_answerFor : ByteArray := prog_4_method_5_code
def yX2_answerFor : MethodName := ⟨RX2, "answerFor", "(II)I"⟩
abbrev cX2_tellNext : ByteArray := prog_4_method_6_code
def yX2_tellNext : MethodName := ⟨RX2, "tellNext", "(I)I"⟩
abbrev cX2_isTold : ByteArray := prog_4_method_7_code
def yX2_isTold : MethodName := ⟨RX2, "isTold", "(I)Z"⟩
abbrev cX2_tellLot : ByteArray := prog_4_method_8_code
def yX2_tellLot : MethodName := ⟨RX2, "tellLot", "(I)I"⟩
abbrev cX2_begin : ByteArray := prog_4_method_9_code
def yX2_begin : MethodName := ⟨RX2, "begin", "()I"⟩
abbrev cX2_addDeposit : ByteArray := prog_4_method_10_code
def yX2_addDeposit : MethodName := ⟨RX2, "addDeposit", "(II)I"⟩
abbrev cX2_layRow : ByteArray := prog_4_method_11_code
def yX2_layRow : MethodName := ⟨RX2, "layRow", "(I)I"⟩
abbrev cX2_tearRow : ByteArray := prog_4_method_12_code
def yX2_tearRow : MethodName := ⟨RX2, "tearRow", "()I"⟩
abbrev cX2_payIn : ByteArray := prog_4_method_13_code
def yX2_payIn : MethodName := ⟨RX2, "payIn", "(II)I"⟩
abbrev cX2_payFirst : ByteArray := prog_4_method_14_code
def yX2_payFirst : MethodName := ⟨RX2, "payFirst", "(LPurseRing$Place;)I"⟩
abbrev cX2_paySecond : ByteArray := prog_4_method_15_code
def yX2_paySecond : MethodName := ⟨RX2, "paySecond", "(LPurseRing$Place;)I"⟩
abbrev cX2_putIntoCell : ByteArray := prog_4_method_16_code
def yX2_putIntoCell : MethodName := ⟨RX2, "putIntoCell", "(LPurseRing$Place;J)V"⟩
abbrev cX2_payDebt : ByteArray := prog_4_method_17_code
def yX2_payDebt : MethodName := ⟨RX2, "payDebt", "(I)I"⟩
abbrev cX2_takeBid : ByteArray := prog_4_method_18_code
def yX2_takeBid : MethodName := ⟨RX2, "takeBid", "(IJ)I"⟩
abbrev cX2_ask : ByteArray := prog_4_method_19_code
def yX2_ask : MethodName := ⟨RX2, "ask", "(I)I"⟩
abbrev cX2_whyNoWish : ByteArray := prog_4_method_20_code
def yX2_whyNoWish : MethodName := ⟨RX2, "whyNoWish", "(II)I"⟩
abbrev cX2_sayYes : ByteArray := prog_4_method_21_code
def yX2_sayYes : MethodName := ⟨RX2, "sayYes", "(I)I"⟩
abbrev cX2_endRound : ByteArray := prog_4_method_22_code
def yX2_endRound : MethodName := ⟨RX2, "endRound", "()I"⟩
abbrev cX2_keepBook : ByteArray := prog_4_method_23_code
def yX2_keepBook : MethodName := ⟨RX2, "keepBook", "()V"⟩
abbrev cX2_keepRound : ByteArray := prog_4_method_24_code
def yX2_keepRound : MethodName := ⟨RX2, "keepRound", "(IJJJ)V"⟩
abbrev cX2_collect : ByteArray := prog_4_method_25_code
def yX2_collect : MethodName := ⟨RX2, "collect", "()J"⟩
abbrev cX2_putInFor : ByteArray := prog_4_method_26_code
def yX2_putInFor : MethodName := ⟨RX2, "putInFor", "(LPurseRing$Place;J)J"⟩
abbrev cX2_whoDraws : ByteArray := prog_4_method_27_code
def yX2_whoDraws : MethodName := ⟨RX2, "whoDraws", "()I"⟩
abbrev cX2_firstInOrder : ByteArray := prog_4_method_28_code
def yX2_firstInOrder : MethodName := ⟨RX2, "firstInOrder", "()I"⟩
abbrev cX2_drawnByLot : ByteArray := prog_4_method_29_code
def yX2_drawnByLot : MethodName := ⟨RX2, "drawnByLot", "()I"⟩
abbrev cX2_bestBidder : ByteArray := prog_4_method_30_code
def yX2_bestBidder : MethodName := ⟨RX2, "bestBidder", "()I"⟩
abbrev cX2_neediest : ByteArray := prog_4_method_31_code
def yX2_neediest : MethodName := ⟨RX2, "neediest", "()I"⟩
abbrev cX2_handOut : ByteArray := prog_4_method_32_code
def yX2_handOut : MethodName := ⟨RX2, "handOut", "(IJ)J"⟩
abbrev cX2_countOthers : ByteArray := prog_4_method_33_code
def yX2_countOthers : MethodName := ⟨RX2, "countOthers", "(I)I"⟩
abbrev cX2_shareBid : ByteArray := prog_4_method_34_code
def yX2_shareBid : MethodName := ⟨RX2, "shareBid", "(IIJ)V"⟩
abbrev cX2_shareSingly : ByteArray := prog_4_method_35_code
def yX2_shareSingly : MethodName := ⟨RX2, "shareSingly", "(IJZ)J"⟩
abbrev cX2_repayClaim : ByteArray := prog_4_method_36_code
def yX2_repayClaim : MethodName := ⟨RX2, "repayClaim", "(LPurseRing$Place;J)J"⟩
abbrev cX2_keptOf : ByteArray := prog_4_method_37_code
def yX2_keptOf : MethodName := ⟨RX2, "keptOf", "(II)J"⟩
abbrev cX2_stopPlace : ByteArray := prog_4_method_38_code
def yX2_stopPlace : MethodName := ⟨RX2, "stopPlace", "(I)I"⟩
abbrev cX2_keepStop : ByteArray := prog_4_method_39_code
def yX2_keepStop : MethodName := ⟨RX2, "keepStop", "(ILPurseRing$Place;)V"⟩
abbrev cX2_replacePlace : ByteArray := prog_4_method_40_code
def yX2_replacePlace : MethodName := ⟨RX2, "replacePlace", "(II)I"⟩
abbrev cX2_stopOf : ByteArray := prog_4_method_41_code
def yX2_stopOf : MethodName := ⟨RX2, "stopOf", "(II)J"⟩
abbrev cX2_finish : ByteArray := prog_4_method_42_code
def yX2_finish : MethodName := ⟨RX2, "finish", "()I"⟩
abbrev cX2_payStops : ByteArray := prog_4_method_43_code
def yX2_payStops : MethodName := ⟨RX2, "payStops", "()V"⟩
abbrev cX2_shareChest : ByteArray := prog_4_method_44_code
def yX2_shareChest : MethodName := ⟨RX2, "shareChest", "()V"⟩
abbrev cX2_fairness : ByteArray := prog_4_method_45_code
def yX2_fairness : MethodName := ⟨RX2, "fairness", "()I"⟩
abbrev cX2_bookAhead : ByteArray := prog_4_method_46_code
def yX2_bookAhead : MethodName := ⟨RX2, "bookAhead", "(I)LPurseRing$Book;"⟩
abbrev cX2_undoRound : ByteArray := prog_4_method_47_code
def yX2_undoRound : MethodName := ⟨RX2, "undoRound", "()I"⟩
abbrev cX2_firstOtherwise : ByteArray := prog_4_method_48_code
def yX2_firstOtherwise : MethodName := ⟨RX2, "firstOtherwise", "([J)I"⟩
abbrev cX2_countOf : ByteArray := prog_4_method_49_code
def yX2_countOf : MethodName := ⟨RX2, "countOf", "(I)J"⟩
def RX3 : String := "PurseRing$Stop"
def TX3 : u_T := fun k => match k with
  | 0 => ("PurseRing$Stop", "seat", "I", false)
  | 1 => ("PurseRing$Stop", "round", "I", false)
  | 2 => ("PurseRing$Stop", "owed", "J", false)
  | 3 => ("PurseRing$Stop", "owes", "J", false)
  | _ => ("PurseRing$Stop", "unpaid", "J", false)
def tyX3 : Nat → FieldType := fun k => match k with
  | 0 => .int
  | 1 => .int
  | 2 => .long
  | 3 => .long
  | _ => .long
abbrev wsX30 : List Cond := u_ws RX3 TX3 5
theorem nmX3 : ∀ a, a < 5 → ∀ b, b < 5 → a ≠ b → (TX3 a).2.1 ≠ (TX3 b).2.1 := by decide +kernel
theorem tyX3_ok : ∀ k, k < 5 → parseFieldDescriptor (TX3 k).2.2.1 = some (tyX3 k) := by decide +kernel
abbrev cX3_init : ByteArray := prog_5_method_1_code
def yX3_init : MethodName := ⟨RX3, "<init>", "()V"⟩
abbrev cX3_copyFrom : ByteArray := prog_5_method_2_code
def yX3_copyFrom : MethodName := ⟨RX3, "copyFrom", "(LPurseRing$Stop;)V"⟩
def RX4 : String := "PurseRing"
def TX4 : u_T := fun k => match k with
  | 0 => ("PurseRing", "rings", "[LPurseRing$Ring;", true)
  | 1 => ("PurseRing", "ringCount", "I", false)
  | 2 => ("PurseRing", "list", "[J", true)
  | _ => ("PurseRing", "listCount", "I", false)
def tyX4 : Nat → FieldType := fun k => match k with
  | 0 => .array (.object "PurseRing$Ring")
  | 1 => .int
  | 2 => .array .long
  | _ => .int
abbrev wsX40 : List Cond := u_ws RX4 TX4 4
theorem nmX4 : ∀ a, a < 4 → ∀ b, b < 4 → a ≠ b → (TX4 a).2.1 ≠ (TX4 b).2.1 := by decide +kernel
theorem tyX4_ok : ∀ k, k < 4 → parseFieldDescriptor (TX4 k).2.2.1 = some (tyX4 k) := by decide +kernel
abbrev cX4_init : ByteArray := prog_1_method_1_code
def yX4_init : MethodName := ⟨RX4, "<init>", "()V"⟩
abbrev cX4_ring : ByteArray := prog_1_method_2_code
def yX4_ring : MethodName := ⟨RX4, "ring", "(IIII)I"⟩
abbrev cX4_seat : ByteArray := prog_1_method_3_code
def yX4_seat : MethodName := ⟨RX4, "seat", "(IIII)I"⟩
abbrev cX4_letter : ByteArray := prog_1_method_4_code
def yX4_letter : MethodName := ⟨RX4, "letter", "(II)I"⟩
abbrev cX4_answers : ByteArray := prog_1_method_5_code
def yX4_answers : MethodName := ⟨RX4, "answers", "(III)I"⟩
abbrev cX4_order : ByteArray := prog_1_method_6_code
def yX4_order : MethodName := ⟨RX4, "order", "(II)I"⟩
abbrev cX4_lot : ByteArray := prog_1_method_7_code
def yX4_lot : MethodName := ⟨RX4, "lot", "(II)I"⟩
abbrev cX4_open : ByteArray := prog_1_method_8_code
def yX4_open : MethodName := ⟨RX4, "open", "(I)I"⟩
abbrev cX4_deposit : ByteArray := prog_1_method_9_code
def yX4_deposit : MethodName := ⟨RX4, "deposit", "(III)I"⟩
abbrev cX4_row : ByteArray := prog_1_method_10_code
def yX4_row : MethodName := ⟨RX4, "row", "(II)I"⟩
abbrev cX4_tear : ByteArray := prog_1_method_11_code
def yX4_tear : MethodName := ⟨RX4, "tear", "(I)I"⟩
abbrev cX4_pay : ByteArray := prog_1_method_12_code
def yX4_pay : MethodName := ⟨RX4, "pay", "(III)I"⟩
abbrev cX4_came : ByteArray := prog_1_method_13_code
def yX4_came : MethodName := ⟨RX4, "came", "(II)I"⟩
abbrev cX4_late : ByteArray := prog_1_method_14_code
def yX4_late : MethodName := ⟨RX4, "late", "(II)I"⟩
abbrev cX4_bid : ByteArray := prog_1_method_15_code
def yX4_bid : MethodName := ⟨RX4, "bid", "(IIJ)I"⟩
abbrev cX4_need : ByteArray := prog_1_method_16_code
def yX4_need : MethodName := ⟨RX4, "need", "(II)I"⟩
abbrev cX4_yes : ByteArray := prog_1_method_17_code
def yX4_yes : MethodName := ⟨RX4, "yes", "(II)I"⟩
abbrev cX4_draw : ByteArray := prog_1_method_18_code
def yX4_draw : MethodName := ⟨RX4, "draw", "(I)I"⟩
abbrev cX4_drawn : ByteArray := prog_1_method_19_code
def yX4_drawn : MethodName := ⟨RX4, "drawn", "(III)J"⟩
abbrev cX4_stop : ByteArray := prog_1_method_20_code
def yX4_stop : MethodName := ⟨RX4, "stop", "(II)I"⟩
abbrev cX4_replace : ByteArray := prog_1_method_21_code
def yX4_replace : MethodName := ⟨RX4, "replace", "(III)I"⟩
abbrev cX4_stops : ByteArray := prog_1_method_22_code
def yX4_stops : MethodName := ⟨RX4, "stops", "(III)J"⟩
abbrev cX4_close : ByteArray := prog_1_method_23_code
def yX4_close : MethodName := ⟨RX4, "close", "(I)I"⟩
abbrev cX4_fair : ByteArray := prog_1_method_24_code
def yX4_fair : MethodName := ⟨RX4, "fair", "(I)I"⟩
abbrev cX4_undo : ByteArray := prog_1_method_25_code
def yX4_undo : MethodName := ⟨RX4, "undo", "(I)I"⟩
abbrev cX4_image : ByteArray := prog_1_method_26_code
def yX4_image : MethodName := ⟨RX4, "image", "(I)I"⟩
abbrev cX4_tell : ByteArray := prog_1_method_27_code
def yX4_tell : MethodName := ⟨RX4, "tell", "(J)I"⟩
abbrev cX4_check : ByteArray := prog_1_method_28_code
def yX4_check : MethodName := ⟨RX4, "check", "(I)I"⟩
abbrev cX4_look : ByteArray := prog_1_method_29_code
def yX4_look : MethodName := ⟨RX4, "look", "(III)J"⟩
abbrev cX4_as : ByteArray := prog_1_method_30_code
def yX4_as : MethodName := ⟨RX4, "as", "(IIII)J"⟩
abbrev cX4_count : ByteArray := prog_1_method_31_code
def yX4_count : MethodName := ⟨RX4, "count", "(II)J"⟩
abbrev cX4_found : ByteArray := prog_1_method_32_code
def yX4_found : MethodName := ⟨RX4, "found", "(I)LPurseRing$Ring;"⟩
abbrev cX4_added : ByteArray := prog_1_method_33_code
def yX4_added : MethodName := ⟨RX4, "added", "(LPurseRing$Ring;)I"⟩
abbrev cX4_within : ByteArray := prog_1_method_34_code
def yX4_within : MethodName := ⟨RX4, "within", "(JJJ)Z"⟩
def RX5 : String := "PurseRingModel"
def TX5 : u_T := fun k => match k with
  | 0 => ("PurseRingModel", "all", "[J", true)
  | 1 => ("PurseRingModel", "rings", "I", false)
  | 2 => ("PurseRingModel", "copies", "[J", true)
  | 3 => ("PurseRingModel", "copyRing", "[I", true)
  | 4 => ("PurseRingModel", "copied", "I", false)
  | 5 => ("PurseRingModel", "stopRows", "[J", true)
  | 6 => ("PurseRingModel", "list", "[J", true)
  | _ => ("PurseRingModel", "listed", "I", false)
def tyX5 : Nat → FieldType := fun k => match k with
  | 0 => .array .long
  | 1 => .int
  | 2 => .array .long
  | 3 => .array .int
  | 4 => .int
  | 5 => .array .long
  | 6 => .array .long
  | _ => .int
abbrev wsX50 : List Cond := u_ws RX5 TX5 8
theorem nmX5 : ∀ a, a < 8 → ∀ b, b < 8 → a ≠ b → (TX5 a).2.1 ≠ (TX5 b).2.1 := by decide +kernel
theorem tyX5_ok : ∀ k, k < 8 → parseFieldDescriptor (TX5 k).2.2.1 = some (tyX5 k) := by decide +kernel
abbrev cX5_init : ByteArray := prog_7_method_1_code
def yX5_init : MethodName := ⟨RX5, "<init>", "()V"⟩
abbrev cX5_get : ByteArray := prog_7_method_2_code
def yX5_get : MethodName := ⟨RX5, "get", "(II)J"⟩
abbrev cX5_set : ByteArray := prog_7_method_3_code
def yX5_set : MethodName := ⟨RX5, "set", "(IIJ)V"⟩
abbrev cX5_more : ByteArray := prog_7_method_4_code
def yX5_more : MethodName := ⟨RX5, "more", "(IIJ)V"⟩
abbrev cX5_at : ByteArray := prog_7_method_5_code
def yX5_at : MethodName := ⟨RX5, "at", "(II)I"⟩
abbrev cX5_isRing : ByteArray := prog_7_method_6_code
def yX5_isRing : MethodName := ⟨RX5, "isRing", "(I)Z"⟩
abbrev cX5_isSeat : ByteArray := prog_7_method_7_code
def yX5_isSeat : MethodName := ⟨RX5, "isSeat", "(I)Z"⟩
abbrev cX5_isMember : ByteArray := prog_7_method_8_code
def yX5_isMember : MethodName := ⟨RX5, "isMember", "(II)Z"⟩
abbrev cX5_isPlace : ByteArray := prog_7_method_9_code
def yX5_isPlace : MethodName := ⟨RX5, "isPlace", "(II)Z"⟩
abbrev cX5_isStopped : ByteArray := prog_7_method_10_code
def yX5_isStopped : MethodName := ⟨RX5, "isStopped", "(II)Z"⟩
abbrev cX5_isNeither : ByteArray := prog_7_method_11_code
def yX5_isNeither : MethodName := ⟨RX5, "isNeither", "(II)Z"⟩
abbrev cX5_isAble : ByteArray := prog_7_method_12_code
def yX5_isAble : MethodName := ⟨RX5, "isAble", "(II)Z"⟩
abbrev cX5_purse : ByteArray := prog_7_method_13_code
def yX5_purse : MethodName := ⟨RX5, "purse", "(I)J"⟩
abbrev cX5_ring : ByteArray := prog_7_method_14_code
def yX5_ring : MethodName := ⟨RX5, "ring", "(IIII)I"⟩
abbrev cX5_seat : ByteArray := prog_7_method_15_code
def yX5_seat : MethodName := ⟨RX5, "seat", "(IIII)I"⟩
abbrev cX5_letter : ByteArray := prog_7_method_16_code
def yX5_letter : MethodName := ⟨RX5, "letter", "(II)I"⟩
abbrev cX5_answers : ByteArray := prog_7_method_17_code
def yX5_answers : MethodName := ⟨RX5, "answers", "(III)I"⟩
abbrev cX5_isTold : ByteArray := prog_7_method_18_code
def yX5_isTold : MethodName := ⟨RX5, "isTold", "(II)Z"⟩
abbrev cX5_order : ByteArray := prog_7_method_19_code
def yX5_order : MethodName := ⟨RX5, "order", "(II)I"⟩
abbrev cX5_lot : ByteArray := prog_7_method_20_code
def yX5_lot : MethodName := ⟨RX5, "lot", "(II)I"⟩
abbrev cX5_open : ByteArray := prog_7_method_21_code
def yX5_open : MethodName := ⟨RX5, "open", "(I)I"⟩
abbrev cX5_against : ByteArray := prog_7_method_22_code
def yX5_against : MethodName := ⟨RX5, "against", "(II)I"⟩
abbrev cX5_deposit : ByteArray := prog_7_method_23_code
def yX5_deposit : MethodName := ⟨RX5, "deposit", "(III)I"⟩
abbrev cX5_comesBack : ByteArray := prog_7_method_24_code
def yX5_comesBack : MethodName := ⟨RX5, "comesBack", "(II)V"⟩
abbrev cX5_rowGoes : ByteArray := prog_7_method_25_code
def yX5_rowGoes : MethodName := ⟨RX5, "rowGoes", "(I)V"⟩
abbrev cX5_row : ByteArray := prog_7_method_26_code
def yX5_row : MethodName := ⟨RX5, "row", "(II)I"⟩
abbrev cX5_tear : ByteArray := prog_7_method_27_code
def yX5_tear : MethodName := ⟨RX5, "tear", "(I)I"⟩
abbrev cX5_pay : ByteArray := prog_7_method_28_code
def yX5_pay : MethodName := ⟨RX5, "pay", "(III)I"⟩
abbrev cX5_came : ByteArray := prog_7_method_29_code
def yX5_came : MethodName := ⟨RX5, "came", "(II)I"⟩
abbrev cX5_late : ByteArray := prog_7_method_30_code
def yX5_late : MethodName := ⟨RX5, "late", "(II)I"⟩
abbrev cX5_againstKind : ByteArray := prog_7_method_31_code
def yX5_againstKind : MethodName := ⟨RX5, "againstKind", "(II)I"⟩
abbrev cX5_bid : ByteArray := prog_7_method_32_code
def yX5_bid : MethodName := ⟨RX5, "bid", "(IIJ)I"⟩
abbrev cX5_nobodySays : ByteArray := prog_7_method_33_code
def yX5_nobodySays : MethodName := ⟨RX5, "nobodySays", "(I)V"⟩
abbrev cX5_need : ByteArray := prog_7_method_34_code
def yX5_need : MethodName := ⟨RX5, "need", "(II)I"⟩
abbrev cX5_yes : ByteArray := prog_7_method_35_code
def yX5_yes : MethodName := ⟨RX5, "yes", "(II)I"⟩
abbrev cX5_said : ByteArray := prog_7_method_36_code
def yX5_said : MethodName := ⟨RX5, "said", "(I)J"⟩
abbrev cX5_neither : ByteArray := prog_7_method_37_code
def yX5_neither : MethodName := ⟨RX5, "neither", "(I)J"⟩
abbrev cX5_keeps : ByteArray := prog_7_method_38_code
def yX5_keeps : MethodName := ⟨RX5, "keeps", "(I)V"⟩
abbrev cX5_lacks : ByteArray := prog_7_method_39_code
def yX5_lacks : MethodName := ⟨RX5, "lacks", "(I)J"⟩
abbrev cX5_firstAble : ByteArray := prog_7_method_40_code
def yX5_firstAble : MethodName := ⟨RX5, "firstAble", "(I)I"⟩
abbrev cX5_byOrder : ByteArray := prog_7_method_41_code
def yX5_byOrder : MethodName := ⟨RX5, "byOrder", "(I)I"⟩
abbrev cX5_byLot : ByteArray := prog_7_method_42_code
def yX5_byLot : MethodName := ⟨RX5, "byLot", "(I)I"⟩
abbrev cX5_byBid : ByteArray := prog_7_method_43_code
def yX5_byBid : MethodName := ⟨RX5, "byBid", "(I)I"⟩
abbrev cX5_byNeed : ByteArray := prog_7_method_44_code
def yX5_byNeed : MethodName := ⟨RX5, "byNeed", "(I)I"⟩
abbrev cX5_who : ByteArray := prog_7_method_45_code
def yX5_who : MethodName := ⟨RX5, "who", "(I)I"⟩
abbrev cX5_isOther : ByteArray := prog_7_method_46_code
def yX5_isOther : MethodName := ⟨RX5, "isOther", "(III)Z"⟩
abbrev cX5_shares : ByteArray := prog_7_method_47_code
def yX5_shares : MethodName := ⟨RX5, "shares", "(IIJJ)V"⟩
abbrev cX5_draws : ByteArray := prog_7_method_48_code
def yX5_draws : MethodName := ⟨RX5, "draws", "(IIJ)J"⟩
abbrev cX5_draw : ByteArray := prog_7_method_49_code
def yX5_draw : MethodName := ⟨RX5, "draw", "(I)I"⟩
abbrev cX5_drawn : ByteArray := prog_7_method_50_code
def yX5_drawn : MethodName := ⟨RX5, "drawn", "(III)J"⟩
abbrev cX5_stopAt : ByteArray := prog_7_method_51_code
def yX5_stopAt : MethodName := ⟨RX5, "stopAt", "(III)I"⟩
abbrev cX5_backComes : ByteArray := prog_7_method_52_code
def yX5_backComes : MethodName := ⟨RX5, "backComes", "(II)V"⟩
abbrev cX5_stop : ByteArray := prog_7_method_53_code
def yX5_stop : MethodName := ⟨RX5, "stop", "(II)I"⟩
abbrev cX5_replace : ByteArray := prog_7_method_54_code
def yX5_replace : MethodName := ⟨RX5, "replace", "(III)I"⟩
abbrev cX5_stops : ByteArray := prog_7_method_55_code
def yX5_stops : MethodName := ⟨RX5, "stops", "(III)J"⟩
abbrev cX5_isFull : ByteArray := prog_7_method_56_code
def yX5_isFull : MethodName := ⟨RX5, "isFull", "(II)Z"⟩
abbrev cX5_close : ByteArray := prog_7_method_57_code
def yX5_close : MethodName := ⟨RX5, "close", "(I)I"⟩
abbrev cX5_fair : ByteArray := prog_7_method_58_code
def yX5_fair : MethodName := ⟨RX5, "fair", "(I)I"⟩
abbrev cX5_latestCopy : ByteArray := prog_7_method_59_code
def yX5_latestCopy : MethodName := ⟨RX5, "latestCopy", "(I)I"⟩
abbrev cX5_copiesOf : ByteArray := prog_7_method_60_code
def yX5_copiesOf : MethodName := ⟨RX5, "copiesOf", "(I)I"⟩
abbrev cX5_undo : ByteArray := prog_7_method_61_code
def yX5_undo : MethodName := ⟨RX5, "undo", "(I)I"⟩
abbrev cX5_image : ByteArray := prog_7_method_62_code
def yX5_image : MethodName := ⟨RX5, "image", "(I)I"⟩
abbrev cX5_tell : ByteArray := prog_7_method_63_code
def yX5_tell : MethodName := ⟨RX5, "tell", "(J)I"⟩
abbrev cX5_check : ByteArray := prog_7_method_64_code
def yX5_check : MethodName := ⟨RX5, "check", "(I)I"⟩
abbrev cX5_look : ByteArray := prog_7_method_65_code
def yX5_look : MethodName := ⟨RX5, "look", "(III)J"⟩
abbrev cX5_as : ByteArray := prog_7_method_66_code
def yX5_as : MethodName := ⟨RX5, "as", "(IIII)J"⟩
abbrev cX5_count : ByteArray := prog_7_method_67_code
def yX5_count : MethodName := ⟨RX5, "count", "(II)J"⟩
def RJ9 : String := "java/lang/Math"
def TJ9 : u_T := fun k => match k with
  | _ => ("", "", "", false)
def tyJ9 : Nat → FieldType := fun k => match k with
  | _ => .int
abbrev wsJ90 : List Cond := u_ws RJ9 TJ9 0
theorem nmJ9 : ∀ a, a < 0 → ∀ b, b < 0 → a ≠ b → (TJ9 a).2.1 ≠ (TJ9 b).2.1 := by decide +kernel
theorem tyJ9_ok : ∀ k, k < 0 → parseFieldDescriptor (TJ9 k).2.2.1 = some (tyJ9 k) := by decide +kernel
abbrev cJ9_max_f86c9 : ByteArray := prog_8_method_66_code
def yJ9_max_f86c9 : MethodName := ⟨RJ9, "max", "(JJ)J"⟩
abbrev cJ9_min_f86c9 : ByteArray := prog_8_method_70_code
def yJ9_min_f86c9 : MethodName := ⟨RJ9, "min", "(JJ)J"⟩
def RJ10 : String := "java/lang/System"
def TJ10 : u_T := fun k => match k with
  | _ => ("", "", "", false)
def tyJ10 : Nat → FieldType := fun k => match k with
  | _ => .int
abbrev wsJ100 : List Cond := u_ws RJ10 TJ10 0
theorem nmJ10 : ∀ a, a < 0 → ∀ b, b < 0 → a ≠ b → (TJ10 a).2.1 ≠ (TJ10 b).2.1 := by decide +kernel
theorem tyJ10_ok : ∀ k, k < 0 → parseFieldDescriptor (TJ10 k).2.2.1 = some (tyJ10 k) := by decide +kernel
def RL : String := "PurseRingLaw"
abbrev cL_law : ByteArray := code
def yL_law : MethodName := ⟨RL, "law", "([I)Z"⟩
