-- ===== PART A: goes FIRST, ahead of the names: the tables' words, and 'selects' of the private methods out of them =====
/-- a private method of a class that the tables say can be made, by its rows of tables_1 -/
def lw_okq (q : MethodName × Nat) : Prop := (q.1.cls ≠ "java/lang/invoke/MethodHandle" ∧ q.1.cls ≠ "java/lang/invoke/VarHandle") ∧ Cond.instantiable q.1.cls q.2 ∈ tables_1 ∧ Cond.privateMethod q.1 ∈ tables_1 ∧ Cond.instanceMethod q.1 ∈ tables_1
theorem lw_p0 : lw_okq (⟨"SpoonVotes$Text", "readItem", "(I)I"⟩, 3) := ⟨⟨by decide +kernel, by decide +kernel⟩, List.mem_of_getElem? (i := 24) (by decide +kernel), List.mem_of_getElem? (i := 210) (by decide +kernel), List.mem_of_getElem? (i := 211) (by decide +kernel)⟩
theorem lw_p1 : lw_okq (⟨"SpoonVotes$Text", "at", "(I)C"⟩, 3) := ⟨⟨by decide +kernel, by decide +kernel⟩, List.mem_of_getElem? (i := 24) (by decide +kernel), List.mem_of_getElem? (i := 214) (by decide +kernel), List.mem_of_getElem? (i := 215) (by decide +kernel)⟩
theorem lw_p2 : lw_okq (⟨"SpoonVotes$Text", "figuresAt", "(I)I"⟩, 3) := ⟨⟨by decide +kernel, by decide +kernel⟩, List.mem_of_getElem? (i := 24) (by decide +kernel), List.mem_of_getElem? (i := 221) (by decide +kernel), List.mem_of_getElem? (i := 222) (by decide +kernel)⟩
theorem lw_p3 : lw_okq (⟨"SpoonVotes$Text", "isFigure", "(I)Z"⟩, 3) := ⟨⟨by decide +kernel, by decide +kernel⟩, List.mem_of_getElem? (i := 24) (by decide +kernel), List.mem_of_getElem? (i := 225) (by decide +kernel), List.mem_of_getElem? (i := 226) (by decide +kernel)⟩
theorem lw_p4 : lw_okq (⟨"SpoonVotes$Text", "figure", "(I)I"⟩, 3) := ⟨⟨by decide +kernel, by decide +kernel⟩, List.mem_of_getElem? (i := 24) (by decide +kernel), List.mem_of_getElem? (i := 229) (by decide +kernel), List.mem_of_getElem? (i := 230) (by decide +kernel)⟩
theorem lw_p5 : lw_okq (⟨"SpoonVotes$Text", "isTaken", "(CLSpoonVotes$Sitting;)Z"⟩, 3) := ⟨⟨by decide +kernel, by decide +kernel⟩, List.mem_of_getElem? (i := 24) (by decide +kernel), List.mem_of_getElem? (i := 233) (by decide +kernel), List.mem_of_getElem? (i := 234) (by decide +kernel)⟩
theorem lw_p6 : lw_okq (⟨"SpoonVotes", "isNoMember", "(I)Z"⟩, 7) := ⟨⟨by decide +kernel, by decide +kernel⟩, List.mem_of_getElem? (i := 16) (by decide +kernel), List.mem_of_getElem? (i := 319) (by decide +kernel), List.mem_of_getElem? (i := 320) (by decide +kernel)⟩
theorem lw_p7 : lw_okq (⟨"SpoonVotes$Sitting", "spoonful", "(II)I"⟩, 11) := ⟨⟨by decide +kernel, by decide +kernel⟩, List.mem_of_getElem? (i := 43) (by decide +kernel), List.mem_of_getElem? (i := 327) (by decide +kernel), List.mem_of_getElem? (i := 328) (by decide +kernel)⟩
theorem lw_p8 : lw_okq (⟨"SpoonVotes$Pile", "dropLowest", "()V"⟩, 2) := ⟨⟨by decide +kernel, by decide +kernel⟩, List.mem_of_getElem? (i := 129) (by decide +kernel), List.mem_of_getElem? (i := 345) (by decide +kernel), List.mem_of_getElem? (i := 346) (by decide +kernel)⟩
theorem lw_p9 : lw_okq (⟨"SpoonVotes$Sitting", "sum", "([I)I"⟩, 11) := ⟨⟨by decide +kernel, by decide +kernel⟩, List.mem_of_getElem? (i := 43) (by decide +kernel), List.mem_of_getElem? (i := 405) (by decide +kernel), List.mem_of_getElem? (i := 406) (by decide +kernel)⟩
theorem lw_p10 : lw_okq (⟨"SpoonVotes$Sets", "howMany", "()I"⟩, 3) := ⟨⟨by decide +kernel, by decide +kernel⟩, List.mem_of_getElem? (i := 96) (by decide +kernel), List.mem_of_getElem? (i := 477) (by decide +kernel), List.mem_of_getElem? (i := 478) (by decide +kernel)⟩
theorem lw_p11 : lw_okq (⟨"SpoonVotes$Sets", "letsPass", "(I)Z"⟩, 3) := ⟨⟨by decide +kernel, by decide +kernel⟩, List.mem_of_getElem? (i := 96) (by decide +kernel), List.mem_of_getElem? (i := 481) (by decide +kernel), List.mem_of_getElem? (i := 482) (by decide +kernel)⟩
theorem lw_p12 : lw_okq (⟨"SpoonVotes$Sets", "casesOf", "(II)I"⟩, 3) := ⟨⟨by decide +kernel, by decide +kernel⟩, List.mem_of_getElem? (i := 96) (by decide +kernel), List.mem_of_getElem? (i := 550) (by decide +kernel), List.mem_of_getElem? (i := 551) (by decide +kernel)⟩
theorem lw_p13 : lw_okq (⟨"SpoonVotesModel", "begins", "()V"⟩, 16) := ⟨⟨by decide +kernel, by decide +kernel⟩, List.mem_of_getElem? (i := 592) (by decide +kernel), List.mem_of_getElem? (i := 598) (by decide +kernel), List.mem_of_getElem? (i := 599) (by decide +kernel)⟩
theorem lw_p14 : lw_okq (⟨"SpoonVotesModel", "memberOf", "(IIII)V"⟩, 16) := ⟨⟨by decide +kernel, by decide +kernel⟩, List.mem_of_getElem? (i := 592) (by decide +kernel), List.mem_of_getElem? (i := 602) (by decide +kernel), List.mem_of_getElem? (i := 603) (by decide +kernel)⟩
theorem lw_p15 : lw_okq (⟨"SpoonVotesModel", "lays", "()V"⟩, 16) := ⟨⟨by decide +kernel, by decide +kernel⟩, List.mem_of_getElem? (i := 592) (by decide +kernel), List.mem_of_getElem? (i := 606) (by decide +kernel), List.mem_of_getElem? (i := 607) (by decide +kernel)⟩
def lw_privs_1 : List (MethodName × Nat) := [(⟨"SpoonVotes$Text", "readItem", "(I)I"⟩, 3), (⟨"SpoonVotes$Text", "at", "(I)C"⟩, 3), (⟨"SpoonVotes$Text", "figuresAt", "(I)I"⟩, 3), (⟨"SpoonVotes$Text", "isFigure", "(I)Z"⟩, 3), (⟨"SpoonVotes$Text", "figure", "(I)I"⟩, 3), (⟨"SpoonVotes$Text", "isTaken", "(CLSpoonVotes$Sitting;)Z"⟩, 3), (⟨"SpoonVotes", "isNoMember", "(I)Z"⟩, 7), (⟨"SpoonVotes$Sitting", "spoonful", "(II)I"⟩, 11), (⟨"SpoonVotes$Pile", "dropLowest", "()V"⟩, 2), (⟨"SpoonVotes$Sitting", "sum", "([I)I"⟩, 11), (⟨"SpoonVotes$Sets", "howMany", "()I"⟩, 3), (⟨"SpoonVotes$Sets", "letsPass", "(I)Z"⟩, 3), (⟨"SpoonVotes$Sets", "casesOf", "(II)I"⟩, 3), (⟨"SpoonVotesModel", "begins", "()V"⟩, 16), (⟨"SpoonVotesModel", "memberOf", "(IIII)V"⟩, 16), (⟨"SpoonVotesModel", "lays", "()V"⟩, 16)]
theorem lw_r1 : ∀ q ∈ lw_privs_1, lw_okq q := List.forall_mem_cons.mpr ⟨lw_p0, List.forall_mem_cons.mpr ⟨lw_p1, List.forall_mem_cons.mpr ⟨lw_p2, List.forall_mem_cons.mpr ⟨lw_p3, List.forall_mem_cons.mpr ⟨lw_p4, List.forall_mem_cons.mpr ⟨lw_p5, List.forall_mem_cons.mpr ⟨lw_p6, List.forall_mem_cons.mpr ⟨lw_p7, List.forall_mem_cons.mpr ⟨lw_p8, List.forall_mem_cons.mpr ⟨lw_p9, List.forall_mem_cons.mpr ⟨lw_p10, List.forall_mem_cons.mpr ⟨lw_p11, List.forall_mem_cons.mpr ⟨lw_p12, List.forall_mem_cons.mpr ⟨lw_p13, List.forall_mem_cons.mpr ⟨lw_p14, List.forall_mem_cons.mpr ⟨lw_p15, fun _ h => absurd h List.not_mem_nil⟩⟩⟩⟩⟩⟩⟩⟩⟩⟩⟩⟩⟩⟩⟩⟩
theorem lw_p16 : lw_okq (⟨"SpoonVotesModel", "readsAll", "()I"⟩, 16) := ⟨⟨by decide +kernel, by decide +kernel⟩, List.mem_of_getElem? (i := 592) (by decide +kernel), List.mem_of_getElem? (i := 674) (by decide +kernel), List.mem_of_getElem? (i := 675) (by decide +kernel)⟩
theorem lw_p17 : lw_okq (⟨"SpoonVotesModel", "readsItem", "(I)Z"⟩, 16) := ⟨⟨by decide +kernel, by decide +kernel⟩, List.mem_of_getElem? (i := 592) (by decide +kernel), List.mem_of_getElem? (i := 678) (by decide +kernel), List.mem_of_getElem? (i := 679) (by decide +kernel)⟩
theorem lw_p18 : lw_okq (⟨"SpoonVotesModel", "number", "(III)I"⟩, 16) := ⟨⟨by decide +kernel, by decide +kernel⟩, List.mem_of_getElem? (i := 592) (by decide +kernel), List.mem_of_getElem? (i := 682) (by decide +kernel), List.mem_of_getElem? (i := 683) (by decide +kernel)⟩
theorem lw_p19 : lw_okq (⟨"SpoonVotesModel", "letterAt", "(I)I"⟩, 16) := ⟨⟨by decide +kernel, by decide +kernel⟩, List.mem_of_getElem? (i := 592) (by decide +kernel), List.mem_of_getElem? (i := 686) (by decide +kernel), List.mem_of_getElem? (i := 687) (by decide +kernel)⟩
theorem lw_p20 : lw_okq (⟨"SpoonVotesModel", "isMember", "(I)Z"⟩, 16) := ⟨⟨by decide +kernel, by decide +kernel⟩, List.mem_of_getElem? (i := 592) (by decide +kernel), List.mem_of_getElem? (i := 701) (by decide +kernel), List.mem_of_getElem? (i := 702) (by decide +kernel)⟩
theorem lw_p21 : lw_okq (⟨"SpoonVotesModel", "wouldEat", "(I)I"⟩, 16) := ⟨⟨by decide +kernel, by decide +kernel⟩, List.mem_of_getElem? (i := 592) (by decide +kernel), List.mem_of_getElem? (i := 705) (by decide +kernel), List.mem_of_getElem? (i := 706) (by decide +kernel)⟩
theorem lw_p22 : lw_okq (⟨"SpoonVotesModel", "keeps", "()V"⟩, 16) := ⟨⟨by decide +kernel, by decide +kernel⟩, List.mem_of_getElem? (i := 592) (by decide +kernel), List.mem_of_getElem? (i := 713) (by decide +kernel), List.mem_of_getElem? (i := 714) (by decide +kernel)⟩
theorem lw_p23 : lw_okq (⟨"SpoonVotesModel", "all", "()I"⟩, 16) := ⟨⟨by decide +kernel, by decide +kernel⟩, List.mem_of_getElem? (i := 592) (by decide +kernel), List.mem_of_getElem? (i := 717) (by decide +kernel), List.mem_of_getElem? (i := 718) (by decide +kernel)⟩
theorem lw_p24 : lw_okq (⟨"SpoonVotesModel", "eats", "(I)I"⟩, 16) := ⟨⟨by decide +kernel, by decide +kernel⟩, List.mem_of_getElem? (i := 592) (by decide +kernel), List.mem_of_getElem? (i := 721) (by decide +kernel), List.mem_of_getElem? (i := 722) (by decide +kernel)⟩
theorem lw_p25 : lw_okq (⟨"SpoonVotesModel", "cools", "()V"⟩, 16) := ⟨⟨by decide +kernel, by decide +kernel⟩, List.mem_of_getElem? (i := 592) (by decide +kernel), List.mem_of_getElem? (i := 725) (by decide +kernel), List.mem_of_getElem? (i := 726) (by decide +kernel)⟩
theorem lw_p26 : lw_okq (⟨"SpoonVotesModel", "cooks", "(I)V"⟩, 16) := ⟨⟨by decide +kernel, by decide +kernel⟩, List.mem_of_getElem? (i := 592) (by decide +kernel), List.mem_of_getElem? (i := 737) (by decide +kernel), List.mem_of_getElem? (i := 738) (by decide +kernel)⟩
theorem lw_p27 : lw_okq (⟨"SpoonVotesModel", "swaps", "(II)V"⟩, 16) := ⟨⟨by decide +kernel, by decide +kernel⟩, List.mem_of_getElem? (i := 592) (by decide +kernel), List.mem_of_getElem? (i := 749) (by decide +kernel), List.mem_of_getElem? (i := 750) (by decide +kernel)⟩
theorem lw_p28 : lw_okq (⟨"SpoonVotesModel", "starves", "()V"⟩, 16) := ⟨⟨by decide +kernel, by decide +kernel⟩, List.mem_of_getElem? (i := 592) (by decide +kernel), List.mem_of_getElem? (i := 757) (by decide +kernel), List.mem_of_getElem? (i := 758) (by decide +kernel)⟩
theorem lw_p29 : lw_okq (⟨"SpoonVotesModel", "sumOf", "(I)I"⟩, 16) := ⟨⟨by decide +kernel, by decide +kernel⟩, List.mem_of_getElem? (i := 592) (by decide +kernel), List.mem_of_getElem? (i := 761) (by decide +kernel), List.mem_of_getElem? (i := 762) (by decide +kernel)⟩
theorem lw_p30 : lw_okq (⟨"SpoonVotesModel", "passesBy", "(I)I"⟩, 16) := ⟨⟨by decide +kernel, by decide +kernel⟩, List.mem_of_getElem? (i := 592) (by decide +kernel), List.mem_of_getElem? (i := 773) (by decide +kernel), List.mem_of_getElem? (i := 774) (by decide +kernel)⟩
theorem lw_p31 : lw_okq (⟨"SpoonVotesModel", "holds", "()V"⟩, 16) := ⟨⟨by decide +kernel, by decide +kernel⟩, List.mem_of_getElem? (i := 592) (by decide +kernel), List.mem_of_getElem? (i := 781) (by decide +kernel), List.mem_of_getElem? (i := 782) (by decide +kernel)⟩
def lw_privs_2 : List (MethodName × Nat) := [(⟨"SpoonVotesModel", "readsAll", "()I"⟩, 16), (⟨"SpoonVotesModel", "readsItem", "(I)Z"⟩, 16), (⟨"SpoonVotesModel", "number", "(III)I"⟩, 16), (⟨"SpoonVotesModel", "letterAt", "(I)I"⟩, 16), (⟨"SpoonVotesModel", "isMember", "(I)Z"⟩, 16), (⟨"SpoonVotesModel", "wouldEat", "(I)I"⟩, 16), (⟨"SpoonVotesModel", "keeps", "()V"⟩, 16), (⟨"SpoonVotesModel", "all", "()I"⟩, 16), (⟨"SpoonVotesModel", "eats", "(I)I"⟩, 16), (⟨"SpoonVotesModel", "cools", "()V"⟩, 16), (⟨"SpoonVotesModel", "cooks", "(I)V"⟩, 16), (⟨"SpoonVotesModel", "swaps", "(II)V"⟩, 16), (⟨"SpoonVotesModel", "starves", "()V"⟩, 16), (⟨"SpoonVotesModel", "sumOf", "(I)I"⟩, 16), (⟨"SpoonVotesModel", "passesBy", "(I)I"⟩, 16), (⟨"SpoonVotesModel", "holds", "()V"⟩, 16)]
theorem lw_r2 : ∀ q ∈ lw_privs_2, lw_okq q := List.forall_mem_cons.mpr ⟨lw_p16, List.forall_mem_cons.mpr ⟨lw_p17, List.forall_mem_cons.mpr ⟨lw_p18, List.forall_mem_cons.mpr ⟨lw_p19, List.forall_mem_cons.mpr ⟨lw_p20, List.forall_mem_cons.mpr ⟨lw_p21, List.forall_mem_cons.mpr ⟨lw_p22, List.forall_mem_cons.mpr ⟨lw_p23, List.forall_mem_cons.mpr ⟨lw_p24, List.forall_mem_cons.mpr ⟨lw_p25, List.forall_mem_cons.mpr ⟨lw_p26, List.forall_mem_cons.mpr ⟨lw_p27, List.forall_mem_cons.mpr ⟨lw_p28, List.forall_mem_cons.mpr ⟨lw_p29, List.forall_mem_cons.mpr ⟨lw_p30, List.forall_mem_cons.mpr ⟨lw_p31, fun _ h => absurd h List.not_mem_nil⟩⟩⟩⟩⟩⟩⟩⟩⟩⟩⟩⟩⟩⟩⟩⟩
theorem lw_p32 : lw_okq (⟨"SpoonVotesModel", "lets", "()V"⟩, 16) := ⟨⟨by decide +kernel, by decide +kernel⟩, List.mem_of_getElem? (i := 592) (by decide +kernel), List.mem_of_getElem? (i := 785) (by decide +kernel), List.mem_of_getElem? (i := 786) (by decide +kernel)⟩
theorem lw_p33 : lw_okq (⟨"SpoonVotesModel", "isPassed", "(I)Z"⟩, 16) := ⟨⟨by decide +kernel, by decide +kernel⟩, List.mem_of_getElem? (i := 592) (by decide +kernel), List.mem_of_getElem? (i := 793) (by decide +kernel), List.mem_of_getElem? (i := 794) (by decide +kernel)⟩
theorem lw_p34 : lw_okq (⟨"SpoonVotesModel", "turn", "(I)V"⟩, 16) := ⟨⟨by decide +kernel, by decide +kernel⟩, List.mem_of_getElem? (i := 592) (by decide +kernel), List.mem_of_getElem? (i := 857) (by decide +kernel), List.mem_of_getElem? (i := 858) (by decide +kernel)⟩
def lw_privs_3 : List (MethodName × Nat) := [(⟨"SpoonVotesModel", "lets", "()V"⟩, 16), (⟨"SpoonVotesModel", "isPassed", "(I)Z"⟩, 16), (⟨"SpoonVotesModel", "turn", "(I)V"⟩, 16)]
theorem lw_r3 : ∀ q ∈ lw_privs_3, lw_okq q := List.forall_mem_cons.mpr ⟨lw_p32, List.forall_mem_cons.mpr ⟨lw_p33, List.forall_mem_cons.mpr ⟨lw_p34, fun _ h => absurd h List.not_mem_nil⟩⟩⟩
def lw_privs : List (MethodName × Nat) := lw_privs_1 ++ (lw_privs_2 ++ (lw_privs_3))
def lw_tbl : List Cond := k2_sels lw_privs ++ tables_1
theorem lw_privs_ok : ∀ q ∈ lw_privs, lw_okq q := by
  show ∀ q ∈ lw_privs_1 ++ (lw_privs_2 ++ (lw_privs_3)), lw_okq q
  exact List.forall_mem_append.mpr ⟨lw_r1, List.forall_mem_append.mpr ⟨lw_r2, lw_r3⟩⟩
-- ===== end of PART A; then your names; then what follows =====
/-! ===== BEGIN words of one list among another's, by their places ===== -/
/-! ===== END ===== -/

/-! ===== BEGIN printed: names, fields, word lists, decode rows ===== -/
def RX0 : String := "SpoonVotes$Pile"
def TX0 : u_T := fun k => match k with
  | 0 => ("SpoonVotes$Pile", "sittings", "[LSpoonVotes$Sitting;", true)
  | _ => ("SpoonVotes$Pile", "many", "I", false)
def tyX0 : Nat → FieldType := fun k => match k with
  | 0 => .array (.object "SpoonVotes$Sitting")
  | _ => .int
abbrev wsX00 : List Cond := u_ws RX0 TX0 2
theorem nmX0 : ∀ a, a < 2 → ∀ b, b < 2 → a ≠ b → (TX0 a).2.1 ≠ (TX0 b).2.1 := by decide +kernel
theorem tyX0_ok : ∀ k, k < 2 → parseFieldDescriptor (TX0 k).2.2.1 = some (tyX0 k) := by decide +kernel
abbrev cX0_init : ByteArray := prog_2_method_1_code
def yX0_init : MethodName := ⟨RX0, "<init>", "(I)V"⟩
abbrev cX0_clear : ByteArray := prog_2_method_2_code
def yX0_clear : MethodName := ⟨RX0, "clear", "()V"⟩
abbrev cX0_put : ByteArray := prog_2_method_3_code
def yX0_put : MethodName := ⟨RX0, "put", "(LSpoonVotes$Sitting;)V"⟩
abbrev cX0_dropLowest : ByteArray := prog_2_method_4_code
def yX0_dropLowest : MethodName := ⟨RX0, "dropLowest", "()V"⟩
abbrev cX0_takeLast : ByteArray := prog_2_method_5_code
def yX0_takeLast : MethodName := ⟨RX0, "takeLast", "(LSpoonVotes$Sitting;)Z"⟩
def RX1 : String := "SpoonVotes$Sets"
def TX1 : u_T := fun k => match k with
  | 0 => ("SpoonVotes$Sets", "reach", "[I", true)
  | 1 => ("SpoonVotes$Sets", "members", "I", false)
  | _ => ("SpoonVotes$Sets", "amount", "I", false)
def tyX1 : Nat → FieldType := fun k => match k with
  | 0 => .array .int
  | 1 => .int
  | _ => .int
abbrev wsX10 : List Cond := u_ws RX1 TX1 3
theorem nmX1 : ∀ a, a < 3 → ∀ b, b < 3 → a ≠ b → (TX1 a).2.1 ≠ (TX1 b).2.1 := by decide +kernel
theorem tyX1_ok : ∀ k, k < 3 → parseFieldDescriptor (TX1 k).2.2.1 = some (tyX1 k) := by decide +kernel
abbrev cX1_init : ByteArray := prog_3_method_1_code
def yX1_init : MethodName := ⟨RX1, "<init>", "()V"⟩
abbrev cX1_measure : ByteArray := prog_3_method_2_code
def yX1_measure : MethodName := ⟨RX1, "measure", "(LSpoonVotes$Sitting;)V"⟩
abbrev cX1_howMany : ByteArray := prog_3_method_3_code
def yX1_howMany : MethodName := ⟨RX1, "howMany", "()I"⟩
abbrev cX1_letsPass : ByteArray := prog_3_method_4_code
def yX1_letsPass : MethodName := ⟨RX1, "letsPass", "(I)Z"⟩
abbrev cX1_isIn : ByteArray := prog_3_method_5_code
def yX1_isIn : MethodName := ⟨RX1, "isIn", "(II)Z"⟩
abbrev cX1_fewest : ByteArray := prog_3_method_6_code
def yX1_fewest : MethodName := ⟨RX1, "fewest", "()I"⟩
abbrev cX1_orders : ByteArray := prog_3_method_7_code
def yX1_orders : MethodName := ⟨RX1, "orders", "()I"⟩
abbrev cX1_ordersDecidedBy : ByteArray := prog_3_method_8_code
def yX1_ordersDecidedBy : MethodName := ⟨RX1, "ordersDecidedBy", "(I)I"⟩
abbrev cX1_factorial : ByteArray := prog_3_method_9_code
def yX1_factorial : MethodName := ⟨RX1, "factorial", "(I)I"⟩
abbrev cX1_cases : ByteArray := prog_3_method_10_code
def yX1_cases : MethodName := ⟨RX1, "cases", "()I"⟩
abbrev cX1_passingCasesBy : ByteArray := prog_3_method_11_code
def yX1_passingCasesBy : MethodName := ⟨RX1, "passingCasesBy", "(I)I"⟩
abbrev cX1_casesOf : ByteArray := prog_3_method_12_code
def yX1_casesOf : MethodName := ⟨RX1, "casesOf", "(II)I"⟩
def RX2 : String := "SpoonVotes$Sightings"
def TX2 : u_T := fun k => match k with
  | 0 => ("SpoonVotes$Sightings", "who", "[I", true)
  | 1 => ("SpoonVotes$Sightings", "much", "[I", true)
  | _ => ("SpoonVotes$Sightings", "many", "I", false)
def tyX2 : Nat → FieldType := fun k => match k with
  | 0 => .array .int
  | 1 => .array .int
  | _ => .int
abbrev wsX20 : List Cond := u_ws RX2 TX2 3
theorem nmX2 : ∀ a, a < 3 → ∀ b, b < 3 → a ≠ b → (TX2 a).2.1 ≠ (TX2 b).2.1 := by decide +kernel
theorem tyX2_ok : ∀ k, k < 3 → parseFieldDescriptor (TX2 k).2.2.1 = some (tyX2 k) := by decide +kernel
abbrev cX2_init : ByteArray := prog_4_method_1_code
def yX2_init : MethodName := ⟨RX2, "<init>", "()V"⟩
abbrev cX2_clear : ByteArray := prog_4_method_2_code
def yX2_clear : MethodName := ⟨RX2, "clear", "()V"⟩
abbrev cX2_add : ByteArray := prog_4_method_3_code
def yX2_add : MethodName := ⟨RX2, "add", "(II)Z"⟩
abbrev cX2_allSoBetween : ByteArray := prog_4_method_4_code
def yX2_allSoBetween : MethodName := ⟨RX2, "allSoBetween", "(LSpoonVotes$Sitting;LSpoonVotes$Sitting;)Z"⟩
def RX3 : String := "SpoonVotes$Sitting"
def TX3 : u_T := fun k => match k with
  | 0 => ("SpoonVotes$Sitting", "kind", "[I", true)
  | 1 => ("SpoonVotes$Sitting", "spoon", "[I", true)
  | 2 => ("SpoonVotes$Sitting", "hunger", "[I", true)
  | 3 => ("SpoonVotes$Sitting", "bears", "[I", true)
  | 4 => ("SpoonVotes$Sitting", "eaten", "[I", true)
  | 5 => ("SpoonVotes$Sitting", "members", "I", false)
  | 6 => ("SpoonVotes$Sitting", "amount", "I", false)
  | 7 => ("SpoonVotes$Sitting", "heat", "I", false)
  | 8 => ("SpoonVotes$Sitting", "salt", "I", false)
  | 9 => ("SpoonVotes$Sitting", "rounds", "I", false)
  | _ => ("SpoonVotes$Sitting", "fastHunger", "I", false)
def tyX3 : Nat → FieldType := fun k => match k with
  | 0 => .array .int
  | 1 => .array .int
  | 2 => .array .int
  | 3 => .array .int
  | 4 => .array .int
  | 5 => .int
  | 6 => .int
  | 7 => .int
  | 8 => .int
  | 9 => .int
  | _ => .int
abbrev wsX30 : List Cond := u_ws RX3 TX3 11
theorem nmX3 : ∀ a, a < 11 → ∀ b, b < 11 → a ≠ b → (TX3 a).2.1 ≠ (TX3 b).2.1 := by decide +kernel
theorem tyX3_ok : ∀ k, k < 11 → parseFieldDescriptor (TX3 k).2.2.1 = some (tyX3 k) := by decide +kernel
abbrev cX3_init : ByteArray := prog_5_method_1_code
def yX3_init : MethodName := ⟨RX3, "<init>", "()V"⟩
abbrev cX3_clear : ByteArray := prog_5_method_2_code
def yX3_clear : MethodName := ⟨RX3, "clear", "()V"⟩
abbrev cX3_takeMember : ByteArray := prog_5_method_3_code
def yX3_takeMember : MethodName := ⟨RX3, "takeMember", "(IIII)Z"⟩
abbrev cX3_takePot : ByteArray := prog_5_method_4_code
def yX3_takePot : MethodName := ⟨RX3, "takePot", "(III)Z"⟩
abbrev cX3_takeRounds : ByteArray := prog_5_method_5_code
def yX3_takeRounds : MethodName := ⟨RX3, "takeRounds", "(I)Z"⟩
abbrev cX3_takeFastHunger : ByteArray := prog_5_method_6_code
def yX3_takeFastHunger : MethodName := ⟨RX3, "takeFastHunger", "(I)Z"⟩
abbrev cX3_takeOver : ByteArray := prog_5_method_7_code
def yX3_takeOver : MethodName := ⟨RX3, "takeOver", "(LSpoonVotes$Sitting;)V"⟩
abbrev cX3_share : ByteArray := prog_5_method_8_code
def yX3_share : MethodName := ⟨RX3, "share", "(I)I"⟩
abbrev cX3_spoonful : ByteArray := prog_5_method_9_code
def yX3_spoonful : MethodName := ⟨RX3, "spoonful", "(II)I"⟩
abbrev cX3_hottestFor : ByteArray := prog_5_method_10_code
def yX3_hottestFor : MethodName := ⟨RX3, "hottestFor", "(I)I"⟩
abbrev cX3_eatRound : ByteArray := prog_5_method_11_code
def yX3_eatRound : MethodName := ⟨RX3, "eatRound", "()I"⟩
abbrev cX3_eatRounds : ByteArray := prog_5_method_12_code
def yX3_eatRounds : MethodName := ⟨RX3, "eatRounds", "(I)I"⟩
abbrev cX3_roundsUntilEmpty : ByteArray := prog_5_method_13_code
def yX3_roundsUntilEmpty : MethodName := ⟨RX3, "roundsUntilEmpty", "()I"⟩
abbrev cX3_reach : ByteArray := prog_5_method_14_code
def yX3_reach : MethodName := ⟨RX3, "reach", "(I)I"⟩
abbrev cX3_reachOfAll : ByteArray := prog_5_method_15_code
def yX3_reachOfAll : MethodName := ⟨RX3, "reachOfAll", "()I"⟩
abbrev cX3_wouldPass : ByteArray := prog_5_method_16_code
def yX3_wouldPass : MethodName := ⟨RX3, "wouldPass", "()Z"⟩
abbrev cX3_putSalt : ByteArray := prog_5_method_17_code
def yX3_putSalt : MethodName := ⟨RX3, "putSalt", "()V"⟩
abbrev cX3_cookTo : ByteArray := prog_5_method_18_code
def yX3_cookTo : MethodName := ⟨RX3, "cookTo", "(I)V"⟩
abbrev cX3_waitOnce : ByteArray := prog_5_method_19_code
def yX3_waitOnce : MethodName := ⟨RX3, "waitOnce", "()V"⟩
abbrev cX3_exchangeSpoons : ByteArray := prog_5_method_20_code
def yX3_exchangeSpoons : MethodName := ⟨RX3, "exchangeSpoons", "(II)V"⟩
abbrev cX3_fastDay : ByteArray := prog_5_method_21_code
def yX3_fastDay : MethodName := ⟨RX3, "fastDay", "()V"⟩
abbrev cX3_liveBy : ByteArray := prog_5_method_22_code
def yX3_liveBy : MethodName := ⟨RX3, "liveBy", "(I)V"⟩
abbrev cX3_hungerOfAll : ByteArray := prog_5_method_23_code
def yX3_hungerOfAll : MethodName := ⟨RX3, "hungerOfAll", "()I"⟩
abbrev cX3_eatenInAll : ByteArray := prog_5_method_24_code
def yX3_eatenInAll : MethodName := ⟨RX3, "eatenInAll", "()I"⟩
abbrev cX3_sum : ByteArray := prog_5_method_25_code
def yX3_sum : MethodName := ⟨RX3, "sum", "([I)I"⟩
def RX4 : String := "SpoonVotes$Text"
def TX4 : u_T := fun k => match k with
  | 0 => ("SpoonVotes$Text", "letters", "[C", true)
  | 1 => ("SpoonVotes$Text", "numbers", "[I", true)
  | _ => ("SpoonVotes$Text", "length", "I", false)
def tyX4 : Nat → FieldType := fun k => match k with
  | 0 => .array .char
  | 1 => .array .int
  | _ => .int
abbrev wsX40 : List Cond := u_ws RX4 TX4 3
theorem nmX4 : ∀ a, a < 3 → ∀ b, b < 3 → a ≠ b → (TX4 a).2.1 ≠ (TX4 b).2.1 := by decide +kernel
theorem tyX4_ok : ∀ k, k < 3 → parseFieldDescriptor (TX4 k).2.2.1 = some (tyX4 k) := by decide +kernel
abbrev cX4_init : ByteArray := prog_6_method_1_code
def yX4_init : MethodName := ⟨RX4, "<init>", "()V"⟩
abbrev cX4_clear : ByteArray := prog_6_method_2_code
def yX4_clear : MethodName := ⟨RX4, "clear", "()V"⟩
abbrev cX4_append : ByteArray := prog_6_method_3_code
def yX4_append : MethodName := ⟨RX4, "append", "(C)Z"⟩
abbrev cX4_layOut : ByteArray := prog_6_method_4_code
def yX4_layOut : MethodName := ⟨RX4, "layOut", "(LSpoonVotes$Sitting;)I"⟩
abbrev cX4_readItem : ByteArray := prog_6_method_5_code
def yX4_readItem : MethodName := ⟨RX4, "readItem", "(I)I"⟩
abbrev cX4_isTaken : ByteArray := prog_6_method_6_code
def yX4_isTaken : MethodName := ⟨RX4, "isTaken", "(CLSpoonVotes$Sitting;)Z"⟩
abbrev cX4_numbersBehind : ByteArray := prog_6_method_7_code
def yX4_numbersBehind : MethodName := ⟨RX4, "numbersBehind", "(C)I"⟩
abbrev cX4_figuresAt : ByteArray := prog_6_method_8_code
def yX4_figuresAt : MethodName := ⟨RX4, "figuresAt", "(I)I"⟩
abbrev cX4_isFigure : ByteArray := prog_6_method_9_code
def yX4_isFigure : MethodName := ⟨RX4, "isFigure", "(I)Z"⟩
abbrev cX4_figure : ByteArray := prog_6_method_10_code
def yX4_figure : MethodName := ⟨RX4, "figure", "(I)I"⟩
abbrev cX4_at : ByteArray := prog_6_method_11_code
def yX4_at : MethodName := ⟨RX4, "at", "(I)C"⟩
def RX5 : String := "SpoonVotes"
def TX5 : u_T := fun k => match k with
  | 0 => ("SpoonVotes", "text", "LSpoonVotes$Text;", true)
  | 1 => ("SpoonVotes", "now", "LSpoonVotes$Sitting;", true)
  | 2 => ("SpoonVotes", "trial", "LSpoonVotes$Sitting;", true)
  | 3 => ("SpoonVotes", "sets", "LSpoonVotes$Sets;", true)
  | 4 => ("SpoonVotes", "sightings", "LSpoonVotes$Sightings;", true)
  | 5 => ("SpoonVotes", "undoable", "LSpoonVotes$Pile;", true)
  | _ => ("SpoonVotes", "kept", "LSpoonVotes$Pile;", true)
def tyX5 : Nat → FieldType := fun k => match k with
  | 0 => .object "SpoonVotes$Text"
  | 1 => .object "SpoonVotes$Sitting"
  | 2 => .object "SpoonVotes$Sitting"
  | 3 => .object "SpoonVotes$Sets"
  | 4 => .object "SpoonVotes$Sightings"
  | 5 => .object "SpoonVotes$Pile"
  | _ => .object "SpoonVotes$Pile"
abbrev wsX50 : List Cond := u_ws RX5 TX5 7
theorem nmX5 : ∀ a, a < 7 → ∀ b, b < 7 → a ≠ b → (TX5 a).2.1 ≠ (TX5 b).2.1 := by decide +kernel
theorem tyX5_ok : ∀ k, k < 7 → parseFieldDescriptor (TX5 k).2.2.1 = some (tyX5 k) := by decide +kernel
abbrev cX5_init : ByteArray := prog_1_method_1_code
def yX5_init : MethodName := ⟨RX5, "<init>", "()V"⟩
abbrev cX5_write : ByteArray := prog_1_method_2_code
def yX5_write : MethodName := ⟨RX5, "write", "(I)I"⟩
abbrev cX5_wipe : ByteArray := prog_1_method_3_code
def yX5_wipe : MethodName := ⟨RX5, "wipe", "()I"⟩
abbrev cX5_fault : ByteArray := prog_1_method_4_code
def yX5_fault : MethodName := ⟨RX5, "fault", "()I"⟩
abbrev cX5_lay : ByteArray := prog_1_method_5_code
def yX5_lay : MethodName := ⟨RX5, "lay", "()I"⟩
abbrev cX5_member : ByteArray := prog_1_method_6_code
def yX5_member : MethodName := ⟨RX5, "member", "(II)I"⟩
abbrev cX5_eat : ByteArray := prog_1_method_7_code
def yX5_eat : MethodName := ⟨RX5, "eat", "(I)I"⟩
abbrev cX5_salt : ByteArray := prog_1_method_8_code
def yX5_salt : MethodName := ⟨RX5, "salt", "()I"⟩
abbrev cX5_cook : ByteArray := prog_1_method_9_code
def yX5_cook : MethodName := ⟨RX5, "cook", "(I)I"⟩
abbrev cX5_cool : ByteArray := prog_1_method_10_code
def yX5_cool : MethodName := ⟨RX5, "cool", "()I"⟩
abbrev cX5_trade : ByteArray := prog_1_method_11_code
def yX5_trade : MethodName := ⟨RX5, "trade", "(II)I"⟩
abbrev cX5_fast : ByteArray := prog_1_method_12_code
def yX5_fast : MethodName := ⟨RX5, "fast", "()I"⟩
abbrev cX5_undo : ByteArray := prog_1_method_13_code
def yX5_undo : MethodName := ⟨RX5, "undo", "()I"⟩
abbrev cX5_passes : ByteArray := prog_1_method_14_code
def yX5_passes : MethodName := ⟨RX5, "passes", "()I"⟩
abbrev cX5_left : ByteArray := prog_1_method_15_code
def yX5_left : MethodName := ⟨RX5, "left", "(I)I"⟩
abbrev cX5_scraper : ByteArray := prog_1_method_16_code
def yX5_scraper : MethodName := ⟨RX5, "scraper", "()I"⟩
abbrev cX5_spoil : ByteArray := prog_1_method_17_code
def yX5_spoil : MethodName := ⟨RX5, "spoil", "()I"⟩
abbrev cX5_waits : ByteArray := prog_1_method_18_code
def yX5_waits : MethodName := ⟨RX5, "waits", "()I"⟩
abbrev cX5_most : ByteArray := prog_1_method_19_code
def yX5_most : MethodName := ⟨RX5, "most", "()I"⟩
abbrev cX5_fasts : ByteArray := prog_1_method_20_code
def yX5_fasts : MethodName := ⟨RX5, "fasts", "()I"⟩
abbrev cX5_cabal : ByteArray := prog_1_method_21_code
def yX5_cabal : MethodName := ⟨RX5, "cabal", "(I)I"⟩
abbrev cX5_trades : ByteArray := prog_1_method_22_code
def yX5_trades : MethodName := ⟨RX5, "trades", "()I"⟩
abbrev cX5_power : ByteArray := prog_1_method_23_code
def yX5_power : MethodName := ⟨RX5, "power", "(II)I"⟩
abbrev cX5_seen : ByteArray := prog_1_method_24_code
def yX5_seen : MethodName := ⟨RX5, "seen", "(II)I"⟩
abbrev cX5_forget : ByteArray := prog_1_method_25_code
def yX5_forget : MethodName := ⟨RX5, "forget", "()I"⟩
abbrev cX5_may : ByteArray := prog_1_method_26_code
def yX5_may : MethodName := ⟨RX5, "may", "(I)I"⟩
abbrev cX5_likely : ByteArray := prog_1_method_27_code
def yX5_likely : MethodName := ⟨RX5, "likely", "(II)I"⟩
abbrev cX5_century : ByteArray := prog_1_method_28_code
def yX5_century : MethodName := ⟨RX5, "century", "(III)I"⟩
abbrev cX5_keep : ByteArray := prog_1_method_29_code
def yX5_keep : MethodName := ⟨RX5, "keep", "()I"⟩
abbrev cX5_back : ByteArray := prog_1_method_30_code
def yX5_back : MethodName := ⟨RX5, "back", "()I"⟩
abbrev cX5_count : ByteArray := prog_1_method_31_code
def yX5_count : MethodName := ⟨RX5, "count", "(I)I"⟩
abbrev cX5_isNoMember : ByteArray := prog_1_method_32_code
def yX5_isNoMember : MethodName := ⟨RX5, "isNoMember", "(I)Z"⟩
abbrev cX5_isOutside : ByteArray := prog_1_method_33_code
def yX5_isOutside : MethodName := ⟨RX5, "isOutside", "(III)Z"⟩
abbrev cX5_draw : ByteArray := prog_1_method_34_code
def yX5_draw : MethodName := ⟨RX5, "draw", "(II)I"⟩
abbrev cX5_inLowestTerms : ByteArray := prog_1_method_35_code
def yX5_inLowestTerms : MethodName := ⟨RX5, "inLowestTerms", "(III)I"⟩
abbrev cX5_commonDivisor : ByteArray := prog_1_method_36_code
def yX5_commonDivisor : MethodName := ⟨RX5, "commonDivisor", "(II)I"⟩
def RX6 : String := "SpoonVotesModel"
def TX6 : u_T := fun k => match k with
  | 0 => ("SpoonVotesModel", "text", "[I", true)
  | 1 => ("SpoonVotesModel", "typed", "I", false)
  | 2 => ("SpoonVotesModel", "told", "[I", true)
  | 3 => ("SpoonVotesModel", "draft", "[I", true)
  | 4 => ("SpoonVotesModel", "begun", "[I", true)
  | 5 => ("SpoonVotesModel", "s", "[I", true)
  | 6 => ("SpoonVotesModel", "past", "[I", true)
  | 7 => ("SpoonVotesModel", "known", "I", false)
  | 8 => ("SpoonVotesModel", "images", "[I", true)
  | 9 => ("SpoonVotesModel", "kept", "I", false)
  | 10 => ("SpoonVotesModel", "notes", "[I", true)
  | 11 => ("SpoonVotesModel", "noted", "I", false)
  | 12 => ("SpoonVotesModel", "at", "I", false)
  | 13 => ("SpoonVotesModel", "last", "I", false)
  | 14 => ("SpoonVotesModel", "held", "[I", true)
  | _ => ("SpoonVotesModel", "tried", "[I", true)
def tyX6 : Nat → FieldType := fun k => match k with
  | 0 => .array .int
  | 1 => .int
  | 2 => .array .int
  | 3 => .array .int
  | 4 => .array .int
  | 5 => .array .int
  | 6 => .array .int
  | 7 => .int
  | 8 => .array .int
  | 9 => .int
  | 10 => .array .int
  | 11 => .int
  | 12 => .int
  | 13 => .int
  | 14 => .array .int
  | _ => .array .int
abbrev wsX60 : List Cond := u_ws RX6 TX6 16
theorem nmX6 : ∀ a, a < 16 → ∀ b, b < 16 → a ≠ b → (TX6 a).2.1 ≠ (TX6 b).2.1 := by decide +kernel
theorem tyX6_ok : ∀ k, k < 16 → parseFieldDescriptor (TX6 k).2.2.1 = some (tyX6 k) := by decide +kernel
abbrev cX6_init : ByteArray := prog_8_method_1_code
def yX6_init : MethodName := ⟨RX6, "<init>", "()V"⟩
abbrev cX6_in : ByteArray := prog_8_method_3_code
def yX6_in : MethodName := ⟨RX6, "in", "(III)Z"⟩
abbrev cX6_isMember : ByteArray := prog_8_method_4_code
def yX6_isMember : MethodName := ⟨RX6, "isMember", "(I)Z"⟩
abbrev cX6_all : ByteArray := prog_8_method_5_code
def yX6_all : MethodName := ⟨RX6, "all", "()I"⟩
abbrev cX6_ones : ByteArray := prog_8_method_6_code
def yX6_ones : MethodName := ⟨RX6, "ones", "(I)I"⟩
abbrev cX6_write : ByteArray := prog_8_method_7_code
def yX6_write : MethodName := ⟨RX6, "write", "(I)I"⟩
abbrev cX6_wipe : ByteArray := prog_8_method_8_code
def yX6_wipe : MethodName := ⟨RX6, "wipe", "()I"⟩
abbrev cX6_letterAt : ByteArray := prog_8_method_9_code
def yX6_letterAt : MethodName := ⟨RX6, "letterAt", "(I)I"⟩
abbrev cX6_isFigure : ByteArray := prog_8_method_10_code
def yX6_isFigure : MethodName := ⟨RX6, "isFigure", "(I)Z"⟩
abbrev cX6_number : ByteArray := prog_8_method_11_code
def yX6_number : MethodName := ⟨RX6, "number", "(III)I"⟩
abbrev cX6_begins : ByteArray := prog_8_method_12_code
def yX6_begins : MethodName := ⟨RX6, "begins", "()V"⟩
abbrev cX6_memberOf : ByteArray := prog_8_method_13_code
def yX6_memberOf : MethodName := ⟨RX6, "memberOf", "(IIII)V"⟩
abbrev cX6_readsItem : ByteArray := prog_8_method_14_code
def yX6_readsItem : MethodName := ⟨RX6, "readsItem", "(I)Z"⟩
abbrev cX6_readsAll : ByteArray := prog_8_method_15_code
def yX6_readsAll : MethodName := ⟨RX6, "readsAll", "()I"⟩
abbrev cX6_fault : ByteArray := prog_8_method_16_code
def yX6_fault : MethodName := ⟨RX6, "fault", "()I"⟩
abbrev cX6_lays : ByteArray := prog_8_method_17_code
def yX6_lays : MethodName := ⟨RX6, "lays", "()V"⟩
abbrev cX6_lay : ByteArray := prog_8_method_18_code
def yX6_lay : MethodName := ⟨RX6, "lay", "()I"⟩
abbrev cX6_wouldEat : ByteArray := prog_8_method_19_code
def yX6_wouldEat : MethodName := ⟨RX6, "wouldEat", "(I)I"⟩
abbrev cX6_member : ByteArray := prog_8_method_20_code
def yX6_member : MethodName := ⟨RX6, "member", "(II)I"⟩
abbrev cX6_keeps : ByteArray := prog_8_method_21_code
def yX6_keeps : MethodName := ⟨RX6, "keeps", "()V"⟩
abbrev cX6_cools : ByteArray := prog_8_method_22_code
def yX6_cools : MethodName := ⟨RX6, "cools", "()V"⟩
abbrev cX6_eats : ByteArray := prog_8_method_23_code
def yX6_eats : MethodName := ⟨RX6, "eats", "(I)I"⟩
abbrev cX6_eat : ByteArray := prog_8_method_24_code
def yX6_eat : MethodName := ⟨RX6, "eat", "(I)I"⟩
abbrev cX6_salt : ByteArray := prog_8_method_25_code
def yX6_salt : MethodName := ⟨RX6, "salt", "()I"⟩
abbrev cX6_cooks : ByteArray := prog_8_method_26_code
def yX6_cooks : MethodName := ⟨RX6, "cooks", "(I)V"⟩
abbrev cX6_cook : ByteArray := prog_8_method_27_code
def yX6_cook : MethodName := ⟨RX6, "cook", "(I)I"⟩
abbrev cX6_cool : ByteArray := prog_8_method_28_code
def yX6_cool : MethodName := ⟨RX6, "cool", "()I"⟩
abbrev cX6_swaps : ByteArray := prog_8_method_29_code
def yX6_swaps : MethodName := ⟨RX6, "swaps", "(II)V"⟩
abbrev cX6_trade : ByteArray := prog_8_method_30_code
def yX6_trade : MethodName := ⟨RX6, "trade", "(II)I"⟩
abbrev cX6_sumOf : ByteArray := prog_8_method_31_code
def yX6_sumOf : MethodName := ⟨RX6, "sumOf", "(I)I"⟩
abbrev cX6_starves : ByteArray := prog_8_method_32_code
def yX6_starves : MethodName := ⟨RX6, "starves", "()V"⟩
abbrev cX6_fast : ByteArray := prog_8_method_33_code
def yX6_fast : MethodName := ⟨RX6, "fast", "()I"⟩
abbrev cX6_undo : ByteArray := prog_8_method_34_code
def yX6_undo : MethodName := ⟨RX6, "undo", "()I"⟩
abbrev cX6_holds : ByteArray := prog_8_method_35_code
def yX6_holds : MethodName := ⟨RX6, "holds", "()V"⟩
abbrev cX6_lets : ByteArray := prog_8_method_36_code
def yX6_lets : MethodName := ⟨RX6, "lets", "()V"⟩
abbrev cX6_passesBy : ByteArray := prog_8_method_37_code
def yX6_passesBy : MethodName := ⟨RX6, "passesBy", "(I)I"⟩
abbrev cX6_isPassed : ByteArray := prog_8_method_38_code
def yX6_isPassed : MethodName := ⟨RX6, "isPassed", "(I)Z"⟩
abbrev cX6_passes : ByteArray := prog_8_method_39_code
def yX6_passes : MethodName := ⟨RX6, "passes", "()I"⟩
abbrev cX6_left : ByteArray := prog_8_method_40_code
def yX6_left : MethodName := ⟨RX6, "left", "(I)I"⟩
abbrev cX6_scraper : ByteArray := prog_8_method_41_code
def yX6_scraper : MethodName := ⟨RX6, "scraper", "()I"⟩
abbrev cX6_spoil : ByteArray := prog_8_method_42_code
def yX6_spoil : MethodName := ⟨RX6, "spoil", "()I"⟩
abbrev cX6_waits : ByteArray := prog_8_method_43_code
def yX6_waits : MethodName := ⟨RX6, "waits", "()I"⟩
abbrev cX6_most : ByteArray := prog_8_method_44_code
def yX6_most : MethodName := ⟨RX6, "most", "()I"⟩
abbrev cX6_fasts : ByteArray := prog_8_method_45_code
def yX6_fasts : MethodName := ⟨RX6, "fasts", "()I"⟩
abbrev cX6_cabal : ByteArray := prog_8_method_46_code
def yX6_cabal : MethodName := ⟨RX6, "cabal", "(I)I"⟩
abbrev cX6_trades : ByteArray := prog_8_method_47_code
def yX6_trades : MethodName := ⟨RX6, "trades", "()I"⟩
abbrev cX6_orders : ByteArray := prog_8_method_48_code
def yX6_orders : MethodName := ⟨RX6, "orders", "(I)I"⟩
abbrev cX6_partOf : ByteArray := prog_8_method_49_code
def yX6_partOf : MethodName := ⟨RX6, "partOf", "(III)I"⟩
abbrev cX6_power : ByteArray := prog_8_method_50_code
def yX6_power : MethodName := ⟨RX6, "power", "(II)I"⟩
abbrev cX6_seen : ByteArray := prog_8_method_51_code
def yX6_seen : MethodName := ⟨RX6, "seen", "(II)I"⟩
abbrev cX6_forget : ByteArray := prog_8_method_52_code
def yX6_forget : MethodName := ⟨RX6, "forget", "()I"⟩
abbrev cX6_may : ByteArray := prog_8_method_53_code
def yX6_may : MethodName := ⟨RX6, "may", "(I)I"⟩
abbrev cX6_likely : ByteArray := prog_8_method_54_code
def yX6_likely : MethodName := ⟨RX6, "likely", "(II)I"⟩
abbrev cX6_turn : ByteArray := prog_8_method_55_code
def yX6_turn : MethodName := ⟨RX6, "turn", "(I)V"⟩
abbrev cX6_century : ByteArray := prog_8_method_56_code
def yX6_century : MethodName := ⟨RX6, "century", "(III)I"⟩
abbrev cX6_keep : ByteArray := prog_8_method_57_code
def yX6_keep : MethodName := ⟨RX6, "keep", "()I"⟩
abbrev cX6_back : ByteArray := prog_8_method_58_code
def yX6_back : MethodName := ⟨RX6, "back", "()I"⟩
abbrev cX6_count : ByteArray := prog_8_method_59_code
def yX6_count : MethodName := ⟨RX6, "count", "(I)I"⟩
def RJ6 : String := "java/lang/Integer"
def TJ6 : u_T := fun k => match k with
  | _ => ("", "", "", false)
def tyJ6 : Nat → FieldType := fun k => match k with
  | _ => .int
abbrev wsJ60 : List Cond := u_ws RJ6 TJ6 0
theorem nmJ6 : ∀ a, a < 0 → ∀ b, b < 0 → a ≠ b → (TJ6 a).2.1 ≠ (TJ6 b).2.1 := by decide +kernel
theorem tyJ6_ok : ∀ k, k < 0 → parseFieldDescriptor (TJ6 k).2.2.1 = some (tyJ6 k) := by decide +kernel
abbrev cJ6_bitCount_0f7a4 : ByteArray := prog_9_method_49_code
def yJ6_bitCount_0f7a4 : MethodName := ⟨RJ6, "bitCount", "(I)I"⟩
def RJ9 : String := "java/lang/Math"
def TJ9 : u_T := fun k => match k with
  | _ => ("", "", "", false)
def tyJ9 : Nat → FieldType := fun k => match k with
  | _ => .int
abbrev wsJ90 : List Cond := u_ws RJ9 TJ9 0
theorem nmJ9 : ∀ a, a < 0 → ∀ b, b < 0 → a ≠ b → (TJ9 a).2.1 ≠ (TJ9 b).2.1 := by decide +kernel
theorem tyJ9_ok : ∀ k, k < 0 → parseFieldDescriptor (TJ9 k).2.2.1 = some (tyJ9 k) := by decide +kernel
abbrev cJ9_max_7cf53 : ByteArray := prog_10_method_65_code
def yJ9_max_7cf53 : MethodName := ⟨RJ9, "max", "(II)I"⟩
abbrev cJ9_min_7cf53 : ByteArray := prog_10_method_69_code
def yJ9_min_7cf53 : MethodName := ⟨RJ9, "min", "(II)I"⟩
def RJ0 : String := "java/lang/String"
def TJ0 : u_T := fun k => match k with
  | _ => ("", "", "", false)
def tyJ0 : Nat → FieldType := fun k => match k with
  | _ => .int
abbrev wsJ00 : List Cond := u_ws RJ0 TJ0 0
theorem nmJ0 : ∀ a, a < 0 → ∀ b, b < 0 → a ≠ b → (TJ0 a).2.1 ≠ (TJ0 b).2.1 := by decide +kernel
theorem tyJ0_ok : ∀ k, k < 0 → parseFieldDescriptor (TJ0 k).2.2.1 = some (tyJ0 k) := by decide +kernel
abbrev cJ0_length_8abf5 : ByteArray := prog_11_method_54_code
def yJ0_length_8abf5 : MethodName := ⟨RJ0, "length", "()I"⟩
abbrev cJ0_charAt_5068e : ByteArray := prog_11_method_56_code
def yJ0_charAt_5068e : MethodName := ⟨RJ0, "charAt", "(I)C"⟩
abbrev cJ0_coder_7d493 : ByteArray := prog_11_method_152_code
def yJ0_coder_7d493 : MethodName := ⟨RJ0, "coder", "()B"⟩
abbrev cJ0_isLatin1_aae02 : ByteArray := prog_11_method_154_code
def yJ0_isLatin1_aae02 : MethodName := ⟨RJ0, "isLatin1", "()Z"⟩
abbrev cJ0_checkIndex_df160 : ByteArray := prog_11_method_155_code
def yJ0_checkIndex_df160 : MethodName := ⟨RJ0, "checkIndex", "(II)V"⟩
def RJ1 : String := "java/lang/StringLatin1"
def TJ1 : u_T := fun k => match k with
  | _ => ("", "", "", false)
def tyJ1 : Nat → FieldType := fun k => match k with
  | _ => .int
abbrev wsJ10 : List Cond := u_ws RJ1 TJ1 0
theorem nmJ1 : ∀ a, a < 0 → ∀ b, b < 0 → a ≠ b → (TJ1 a).2.1 ≠ (TJ1 b).2.1 := by decide +kernel
theorem tyJ1_ok : ∀ k, k < 0 → parseFieldDescriptor (TJ1 k).2.2.1 = some (tyJ1 k) := by decide +kernel
abbrev cJ1_charAt_3b067 : ByteArray := prog_12_method_2_code
def yJ1_charAt_3b067 : MethodName := ⟨RJ1, "charAt", "([BI)C"⟩
def RJ2 : String := "java/lang/StringUTF16"
def TJ2 : u_T := fun k => match k with
  | _ => ("", "", "", false)
def tyJ2 : Nat → FieldType := fun k => match k with
  | _ => .int
abbrev wsJ20 : List Cond := u_ws RJ2 TJ2 0
theorem nmJ2 : ∀ a, a < 0 → ∀ b, b < 0 → a ≠ b → (TJ2 a).2.1 ≠ (TJ2 b).2.1 := by decide +kernel
theorem tyJ2_ok : ∀ k, k < 0 → parseFieldDescriptor (TJ2 k).2.2.1 = some (tyJ2 k) := by decide +kernel
abbrev cJ2_getChar_3b067 : ByteArray := prog_13_method_5_code
def yJ2_getChar_3b067 : MethodName := ⟨RJ2, "getChar", "([BI)C"⟩
abbrev cJ2_length_9d52b : ByteArray := prog_13_method_6_code
def yJ2_length_9d52b : MethodName := ⟨RJ2, "length", "([B)I"⟩
abbrev cJ2_charAt_3b067 : ByteArray := prog_13_method_83_code
def yJ2_charAt_3b067 : MethodName := ⟨RJ2, "charAt", "([BI)C"⟩
abbrev cJ2_checkIndex_2214a : ByteArray := prog_13_method_91_code
def yJ2_checkIndex_2214a : MethodName := ⟨RJ2, "checkIndex", "(I[B)V"⟩
def RJ10 : String := "java/lang/System"
def TJ10 : u_T := fun k => match k with
  | _ => ("", "", "", false)
def tyJ10 : Nat → FieldType := fun k => match k with
  | _ => .int
abbrev wsJ100 : List Cond := u_ws RJ10 TJ10 0
theorem nmJ10 : ∀ a, a < 0 → ∀ b, b < 0 → a ≠ b → (TJ10 a).2.1 ≠ (TJ10 b).2.1 := by decide +kernel
theorem tyJ10_ok : ∀ k, k < 0 → parseFieldDescriptor (TJ10 k).2.2.1 = some (tyJ10 k) := by decide +kernel
def RJ3 : String := "jdk/internal/util/Preconditions"
def TJ3 : u_T := fun k => match k with
  | _ => ("", "", "", false)
def tyJ3 : Nat → FieldType := fun k => match k with
  | _ => .int
abbrev wsJ30 : List Cond := u_ws RJ3 TJ3 0
theorem nmJ3 : ∀ a, a < 0 → ∀ b, b < 0 → a ≠ b → (TJ3 a).2.1 ≠ (TJ3 b).2.1 := by decide +kernel
theorem tyJ3_ok : ∀ k, k < 0 → parseFieldDescriptor (TJ3 k).2.2.1 = some (tyJ3 k) := by decide +kernel
abbrev cJ3_checkIndex_8e157 : ByteArray := prog_15_method_11_code
def yJ3_checkIndex_8e157 : MethodName := ⟨RJ3, "checkIndex", "(IILjava/util/function/BiFunction;)I"⟩
def RL : String := "SpoonVotesLaw"
abbrev cL_law : ByteArray := code
def yL_law : MethodName := ⟨RL, "law", "([I)Z"⟩
abbrev vwCl : List vw_C := [(RX0, TX0, 2), (RX1, TX1, 3), (RX2, TX2, 3), (RX3, TX3, 11), (RX4, TX4, 3), (RX5, TX5, 7), (RX6, TX6, 16)]
/-- the words that every contract speaks of: those of the tables that stay -/
def zTB : List Cond := lw_tbl.filter goodWord
theorem zTB_in : ∀ w ∈ zTB, w ∈ lw_tbl := fun w h => (List.mem_filter.mp h).1
theorem zTB_good : ∀ w ∈ zTB, goodWord w = true := fun w h => (List.mem_filter.mp h).2
theorem zTB_of {w : Cond} (h : w ∈ lw_tbl) (hg : goodWord w = true) : w ∈ zTB := List.mem_filter.mpr ⟨h, hg⟩
theorem inX0 : ∀ w ∈ wsX00, w ∈ zTB := fun w h => zTB_of ((by decide +kernel : ∀ w ∈ wsX00, w ∈ lw_tbl) w h) ((by decide +kernel : ∀ w ∈ wsX00, goodWord w = true) w h)
theorem inX1 : ∀ w ∈ wsX10, w ∈ zTB := fun w h => zTB_of ((by decide +kernel : ∀ w ∈ wsX10, w ∈ lw_tbl) w h) ((by decide +kernel : ∀ w ∈ wsX10, goodWord w = true) w h)
theorem inX2 : ∀ w ∈ wsX20, w ∈ zTB := fun w h => zTB_of ((by decide +kernel : ∀ w ∈ wsX20, w ∈ lw_tbl) w h) ((by decide +kernel : ∀ w ∈ wsX20, goodWord w = true) w h)
theorem inX3 : ∀ w ∈ wsX30, w ∈ zTB := fun w h => zTB_of ((by decide +kernel : ∀ w ∈ wsX30, w ∈ lw_tbl) w h) ((by decide +kernel : ∀ w ∈ wsX30, goodWord w = true) w h)
theorem inX4 : ∀ w ∈ wsX40, w ∈ zTB := fun w h => zTB_of ((by decide +kernel : ∀ w ∈ wsX40, w ∈ lw_tbl) w h) ((by decide +kernel : ∀ w ∈ wsX40, goodWord w = true) w h)
theorem inX5 : ∀ w ∈ wsX50, w ∈ zTB := fun w h => zTB_of ((by decide +kernel : ∀ w ∈ wsX50, w ∈ lw_tbl) w h) ((by decide +kernel : ∀ w ∈ wsX50, goodWord w = true) w h)
theorem inX6 : ∀ w ∈ wsX60, w ∈ zTB := fun w h => zTB_of ((by decide +kernel : ∀ w ∈ wsX60, w ∈ lw_tbl) w h) ((by decide +kernel : ∀ w ∈ wsX60, goodWord w = true) w h)
