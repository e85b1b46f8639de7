section
-- ===== PART A: goes FIRST, ahead of the names: the tables' words, and 'selects' of the private methods out of them =====
/-- a private method of a class that the tables say can be made, by its rows of tables_1 -/
def lw_okq (q : MethodName × Nat) : Prop := (q.1.cls ≠ "java/lang/invoke/MethodHandle" ∧ q.1.cls ≠ "java/lang/invoke/VarHandle") ∧ Cond.instantiable q.1.cls q.2 ∈ tables_1 ∧ Cond.privateMethod q.1 ∈ tables_1 ∧ Cond.instanceMethod q.1 ∈ tables_1
theorem lw_p0 : lw_okq (⟨"SpoonVotes$Text", "readItem", "(I)I"⟩, 3) := ⟨⟨by decide +kernel, by decide +kernel⟩, List.mem_of_getElem? (i := 24) (by decide +kernel), List.mem_of_getElem? (i := 210) (by decide +kernel), List.mem_of_getElem? (i := 211) (by decide +kernel)⟩
theorem lw_p1 : lw_okq (⟨"SpoonVotes$Text", "at", "(I)C"⟩, 3) := ⟨⟨by decide +kernel, by decide +kernel⟩, List.mem_of_getElem? (i := 24) (by decide +kernel), List.mem_of_getElem? (i := 214) (by decide +kernel), List.mem_of_getElem? (i := 215) (by decide +kernel)⟩
theorem lw_p2 : lw_okq (⟨"SpoonVotes$Text", "figuresAt", "(I)I"⟩, 3) := ⟨⟨by decide +kernel, by decide +kernel⟩, List.mem_of_getElem? (i := 24) (by decide +kernel), List.mem_of_getElem? (i := 221) (by decide +kernel), List.mem_of_getElem? (i := 222) (by decide +kernel)⟩
theorem lw_p3 : lw_okq (⟨"SpoonVotes$Text", "isFigure", "(I)Z"⟩, 3) := ⟨⟨by decide +kernel, by decide +kernel⟩, List.mem_of_getElem? (i := 24) (by decide +kernel), List.mem_of_getElem? (i := 225) (by decide +kernel), List.mem_of_getElem? (i := 226) (by decide +kernel)⟩
theorem lw_p4 : lw_okq (⟨"SpoonVotes$Text", "figure", "(I)I"⟩, 3) := ⟨⟨by decide +kernel, by decide +kernel⟩, List.mem_of_getElem? (i := 24) (by decide +kernel), List.mem_of_getElem? (i := 229) (by decide +kernel), List.mem_of_getElem? (i := 230) (by decide +kernel)⟩
theorem lw_p5 : lw_okq (⟨"SpoonVotes$Text", "isTaken", "(CLSpoonVotes$Sitting;)Z"⟩, 3) := ⟨⟨by decide +kernel, by decide +kernel⟩, List.mem_of_getElem? (i := 24) (by decide +kernel), List.mem_of_getElem? (i := 233) (by decide +kernel), List.mem_of_getElem? (i := 234) (by decide +kernel)⟩
theorem lw_p6 : lw_okq (⟨"SpoonVotes", "isNoMember", "(I)Z"⟩, 7) := ⟨⟨by decide +kernel, by decide +kernel⟩, List.mem_of_getElem? (i := 16) (by decide +kernel), List.mem_of_getElem? (i := 319) (by decide +kernel), List.mem_of_getElem? (i := 320) (by decide +kernel)⟩
theorem lw_p7 : lw_okq (⟨"SpoonVotes$Sitting", "spoonful", "(II)I"⟩, 11) := ⟨⟨by decide +kernel, by decide +kernel⟩, List.mem_of_getElem? (i := 43) (by decide +kernel), List.mem_of_getElem? (i := 327) (by decide +kernel), List.mem_of_getElem? (i := 328) (by decide +kernel)⟩
theorem lw_p8 : lw_okq (⟨"SpoonVotes$Pile", "dropLowest", "()V"⟩, 2) := ⟨⟨by decide +kernel, by decide +kernel⟩, List.mem_of_getElem? (i := 129) (by decide +kernel), List.mem_of_getElem? (i := 345) (by decide +kernel), List.mem_of_getElem? (i := 346) (by decide +kernel)⟩
theorem lw_p9 : lw_okq (⟨"SpoonVotes$Sitting", "sum", "([I)I"⟩, 11) := ⟨⟨by decide +kernel, by decide +kernel⟩, List.mem_of_getElem? (i := 43) (by decide +kernel), List.mem_of_getElem? (i := 405) (by decide +kernel), List.mem_of_getElem? (i := 406) (by decide +kernel)⟩
theorem lw_p10 : lw_okq (⟨"SpoonVotes$Sets", "howMany", "()I"⟩, 3) := ⟨⟨by decide +kernel, by decide +kernel⟩, List.mem_of_getElem? (i := 96) (by decide +kernel), List.mem_of_getElem? (i := 477) (by decide +kernel), List.mem_of_getElem? (i := 478) (by decide +kernel)⟩
theorem lw_p11 : lw_okq (⟨"SpoonVotes$Sets", "letsPass", "(I)Z"⟩, 3) := ⟨⟨by decide +kernel, by decide +kernel⟩, List.mem_of_getElem? (i := 96) (by decide +kernel), List.mem_of_getElem? (i := 481) (by decide +kernel), List.mem_of_getElem? (i := 482) (by decide +kernel)⟩
theorem lw_p12 : lw_okq (⟨"SpoonVotes$Sets", "casesOf", "(II)I"⟩, 3) := ⟨⟨by decide +kernel, by decide +kernel⟩, List.mem_of_getElem? (i := 96) (by decide +kernel), List.mem_of_getElem? (i := 550) (by decide +kernel), List.mem_of_getElem? (i := 551) (by decide +kernel)⟩
theorem lw_p13 : lw_okq (⟨"SpoonVotesModel", "begins", "()V"⟩, 16) := ⟨⟨by decide +kernel, by decide +kernel⟩, List.mem_of_getElem? (i := 592) (by decide +kernel), List.mem_of_getElem? (i := 598) (by decide +kernel), List.mem_of_getElem? (i := 599) (by decide +kernel)⟩
theorem lw_p14 : lw_okq (⟨"SpoonVotesModel", "memberOf", "(IIII)V"⟩, 16) := ⟨⟨by decide +kernel, by decide +kernel⟩, List.mem_of_getElem? (i := 592) (by decide +kernel), List.mem_of_getElem? (i := 602) (by decide +kernel), List.mem_of_getElem? (i := 603) (by decide +kernel)⟩
theorem lw_p15 : lw_okq (⟨"SpoonVotesModel", "lays", "()V"⟩, 16) := ⟨⟨by decide +kernel, by decide +kernel⟩, List.mem_of_getElem? (i := 592) (by decide +kernel), List.mem_of_getElem? (i := 606) (by decide +kernel), List.mem_of_getElem? (i := 607) (by decide +kernel)⟩
def lw_privs_1 : List (MethodName × Nat) := [(⟨"SpoonVotes$Text", "readItem", "(I)I"⟩, 3), (⟨"SpoonVotes$Text", "at", "(I)C"⟩, 3), (⟨"SpoonVotes$Text", "figuresAt", "(I)I"⟩, 3), (⟨"SpoonVotes$Text", "isFigure", "(I)Z"⟩, 3), (⟨"SpoonVotes$Text", "figure", "(I)I"⟩, 3), (⟨"SpoonVotes$Text", "isTaken", "(CLSpoonVotes$Sitting;)Z"⟩, 3), (⟨"SpoonVotes", "isNoMember", "(I)Z"⟩, 7), (⟨"SpoonVotes$Sitting", "spoonful", "(II)I"⟩, 11), (⟨"SpoonVotes$Pile", "dropLowest", "()V"⟩, 2), (⟨"SpoonVotes$Sitting", "sum", "([I)I"⟩, 11), (⟨"SpoonVotes$Sets", "howMany", "()I"⟩, 3), (⟨"SpoonVotes$Sets", "letsPass", "(I)Z"⟩, 3), (⟨"SpoonVotes$Sets", "casesOf", "(II)I"⟩, 3), (⟨"SpoonVotesModel", "begins", "()V"⟩, 16), (⟨"SpoonVotesModel", "memberOf", "(IIII)V"⟩, 16), (⟨"SpoonVotesModel", "lays", "()V"⟩, 16)]
theorem lw_r1 : ∀ q ∈ lw_privs_1, lw_okq q := List.forall_mem_cons.mpr ⟨lw_p0, List.forall_mem_cons.mpr ⟨lw_p1, List.forall_mem_cons.mpr ⟨lw_p2, List.forall_mem_cons.mpr ⟨lw_p3, List.forall_mem_cons.mpr ⟨lw_p4, List.forall_mem_cons.mpr ⟨lw_p5, List.forall_mem_cons.mpr ⟨lw_p6, List.forall_mem_cons.mpr ⟨lw_p7, List.forall_mem_cons.mpr ⟨lw_p8, List.forall_mem_cons.mpr ⟨lw_p9, List.forall_mem_cons.mpr ⟨lw_p10, List.forall_mem_cons.mpr ⟨lw_p11, List.forall_mem_cons.mpr ⟨lw_p12, List.forall_mem_cons.mpr ⟨lw_p13, List.forall_mem_cons.mpr ⟨lw_p14, List.forall_mem_cons.mpr ⟨lw_p15, fun _ h => absurd h List.not_mem_nil⟩⟩⟩⟩⟩⟩⟩⟩⟩⟩⟩⟩⟩⟩⟩⟩
theorem lw_p16 : lw_okq (⟨"SpoonVotesModel", "readsAll", "()I"⟩, 16) := ⟨⟨by decide +kernel, by decide +kernel⟩, List.mem_of_getElem? (i := 592) (by decide +kernel), List.mem_of_getElem? (i := 674) (by decide +kernel), List.mem_of_getElem? (i := 675) (by decide +kernel)⟩
theorem lw_p17 : lw_okq (⟨"SpoonVotesModel", "readsItem", "(I)Z"⟩, 16) := ⟨⟨by decide +kernel, by decide +kernel⟩, List.mem_of_getElem? (i := 592) (by decide +kernel), List.mem_of_getElem? (i := 678) (by decide +kernel), List.mem_of_getElem? (i := 679) (by decide +kernel)⟩
theorem lw_p18 : lw_okq (⟨"SpoonVotesModel", "number", "(III)I"⟩, 16) := ⟨⟨by decide +kernel, by decide +kernel⟩, List.mem_of_getElem? (i := 592) (by decide +kernel), List.mem_of_getElem? (i := 682) (by decide +kernel), List.mem_of_getElem? (i := 683) (by decide +kernel)⟩
theorem lw_p19 : lw_okq (⟨"SpoonVotesModel", "letterAt", "(I)I"⟩, 16) := ⟨⟨by decide +kernel, by decide +kernel⟩, List.mem_of_getElem? (i := 592) (by decide +kernel), List.mem_of_getElem? (i := 686) (by decide +kernel), List.mem_of_getElem? (i := 687) (by decide +kernel)⟩
theorem lw_p20 : lw_okq (⟨"SpoonVotesModel", "isMember", "(I)Z"⟩, 16) := ⟨⟨by decide +kernel, by decide +kernel⟩, List.mem_of_getElem? (i := 592) (by decide +kernel), List.mem_of_getElem? (i := 701) (by decide +kernel), List.mem_of_getElem? (i := 702) (by decide +kernel)⟩
theorem lw_p21 : lw_okq (⟨"SpoonVotesModel", "wouldEat", "(I)I"⟩, 16) := ⟨⟨by decide +kernel, by decide +kernel⟩, List.mem_of_getElem? (i := 592) (by decide +kernel), List.mem_of_getElem? (i := 705) (by decide +kernel), List.mem_of_getElem? (i := 706) (by decide +kernel)⟩
theorem lw_p22 : lw_okq (⟨"SpoonVotesModel", "keeps", "()V"⟩, 16) := ⟨⟨by decide +kernel, by decide +kernel⟩, List.mem_of_getElem? (i := 592) (by decide +kernel), List.mem_of_getElem? (i := 713) (by decide +kernel), List.mem_of_getElem? (i := 714) (by decide +kernel)⟩
theorem lw_p23 : lw_okq (⟨"SpoonVotesModel", "all", "()I"⟩, 16) := ⟨⟨by decide +kernel, by decide +kernel⟩, List.mem_of_getElem? (i := 592) (by decide +kernel), List.mem_of_getElem? (i := 717) (by decide +kernel), List.mem_of_getElem? (i := 718) (by decide +kernel)⟩
theorem lw_p24 : lw_okq (⟨"SpoonVotesModel", "eats", "(I)I"⟩, 16) := ⟨⟨by decide +kernel, by decide +kernel⟩, List.mem_of_getElem? (i := 592) (by decide +kernel), List.mem_of_getElem? (i := 721) (by decide +kernel), List.mem_of_getElem? (i := 722) (by decide +kernel)⟩
theorem lw_p25 : lw_okq (⟨"SpoonVotesModel", "cools", "()V"⟩, 16) := ⟨⟨by decide +kernel, by decide +kernel⟩, List.mem_of_getElem? (i := 592) (by decide +kernel), List.mem_of_getElem? (i := 725) (by decide +kernel), List.mem_of_getElem? (i := 726) (by decide +kernel)⟩
theorem lw_p26 : lw_okq (⟨"SpoonVotesModel", "cooks", "(I)V"⟩, 16) := ⟨⟨by decide +kernel, by decide +kernel⟩, List.mem_of_getElem? (i := 592) (by decide +kernel), List.mem_of_getElem? (i := 737) (by decide +kernel), List.mem_of_getElem? (i := 738) (by decide +kernel)⟩
theorem lw_p27 : lw_okq (⟨"SpoonVotesModel", "swaps", "(II)V"⟩, 16) := ⟨⟨by decide +kernel, by decide +kernel⟩, List.mem_of_getElem? (i := 592) (by decide +kernel), List.mem_of_getElem? (i := 749) (by decide +kernel), List.mem_of_getElem? (i := 750) (by decide +kernel)⟩
theorem lw_p28 : lw_okq (⟨"SpoonVotesModel", "starves", "()V"⟩, 16) := ⟨⟨by decide +kernel, by decide +kernel⟩, List.mem_of_getElem? (i := 592) (by decide +kernel), List.mem_of_getElem? (i := 757) (by decide +kernel), List.mem_of_getElem? (i := 758) (by decide +kernel)⟩
theorem lw_p29 : lw_okq (⟨"SpoonVotesModel", "sumOf", "(I)I"⟩, 16) := ⟨⟨by decide +kernel, by decide +kernel⟩, List.mem_of_getElem? (i := 592) (by decide +kernel), List.mem_of_getElem? (i := 761) (by decide +kernel), List.mem_of_getElem? (i := 762) (by decide +kernel)⟩
theorem lw_p30 : lw_okq (⟨"SpoonVotesModel", "passesBy", "(I)I"⟩, 16) := ⟨⟨by decide +kernel, by decide +kernel⟩, List.mem_of_getElem? (i := 592) (by decide +kernel), List.mem_of_getElem? (i := 773) (by decide +kernel), List.mem_of_getElem? (i := 774) (by decide +kernel)⟩
theorem lw_p31 : lw_okq (⟨"SpoonVotesModel", "holds", "()V"⟩, 16) := ⟨⟨by decide +kernel, by decide +kernel⟩, List.mem_of_getElem? (i := 592) (by decide +kernel), List.mem_of_getElem? (i := 781) (by decide +kernel), List.mem_of_getElem? (i := 782) (by decide +kernel)⟩
def lw_privs_2 : List (MethodName × Nat) := [(⟨"SpoonVotesModel", "readsAll", "()I"⟩, 16), (⟨"SpoonVotesModel", "readsItem", "(I)Z"⟩, 16), (⟨"SpoonVotesModel", "number", "(III)I"⟩, 16), (⟨"SpoonVotesModel", "letterAt", "(I)I"⟩, 16), (⟨"SpoonVotesModel", "isMember", "(I)Z"⟩, 16), (⟨"SpoonVotesModel", "wouldEat", "(I)I"⟩, 16), (⟨"SpoonVotesModel", "keeps", "()V"⟩, 16), (⟨"SpoonVotesModel", "all", "()I"⟩, 16), (⟨"SpoonVotesModel", "eats", "(I)I"⟩, 16), (⟨"SpoonVotesModel", "cools", "()V"⟩, 16), (⟨"SpoonVotesModel", "cooks", "(I)V"⟩, 16), (⟨"SpoonVotesModel", "swaps", "(II)V"⟩, 16), (⟨"SpoonVotesModel", "starves", "()V"⟩, 16), (⟨"SpoonVotesModel", "sumOf", "(I)I"⟩, 16), (⟨"SpoonVotesModel", "passesBy", "(I)I"⟩, 16), (⟨"SpoonVotesModel", "holds", "()V"⟩, 16)]
theorem lw_r2 : ∀ q ∈ lw_privs_2, lw_okq q := List.forall_mem_cons.mpr ⟨lw_p16, List.forall_mem_cons.mpr ⟨lw_p17, List.forall_mem_cons.mpr ⟨lw_p18, List.forall_mem_cons.mpr ⟨lw_p19, List.forall_mem_cons.mpr ⟨lw_p20, List.forall_mem_cons.mpr ⟨lw_p21, List.forall_mem_cons.mpr ⟨lw_p22, List.forall_mem_cons.mpr ⟨lw_p23, List.forall_mem_cons.mpr ⟨lw_p24, List.forall_mem_cons.mpr ⟨lw_p25, List.forall_mem_cons.mpr ⟨lw_p26, List.forall_mem_cons.mpr ⟨lw_p27, List.forall_mem_cons.mpr ⟨lw_p28, List.forall_mem_cons.mpr ⟨lw_p29, List.forall_mem_cons.mpr ⟨lw_p30, List.forall_mem_cons.mpr ⟨lw_p31, fun _ h => absurd h List.not_mem_nil⟩⟩⟩⟩⟩⟩⟩⟩⟩⟩⟩⟩⟩⟩⟩⟩
theorem lw_p32 : lw_okq (⟨"SpoonVotesModel", "lets", "()V"⟩, 16) := ⟨⟨by decide +kernel, by decide +kernel⟩, List.mem_of_getElem? (i := 592) (by decide +kernel), List.mem_of_getElem? (i := 785) (by decide +kernel), List.mem_of_getElem? (i := 786) (by decide +kernel)⟩
theorem lw_p33 : lw_okq (⟨"SpoonVotesModel", "isPassed", "(I)Z"⟩, 16) := ⟨⟨by decide +kernel, by decide +kernel⟩, List.mem_of_getElem? (i := 592) (by decide +kernel), List.mem_of_getElem? (i := 793) (by decide +kernel), List.mem_of_getElem? (i := 794) (by decide +kernel)⟩
theorem lw_p34 : lw_okq (⟨"SpoonVotesModel", "turn", "(I)V"⟩, 16) := ⟨⟨by decide +kernel, by decide +kernel⟩, List.mem_of_getElem? (i := 592) (by decide +kernel), List.mem_of_getElem? (i := 857) (by decide +kernel), List.mem_of_getElem? (i := 858) (by decide +kernel)⟩
def lw_privs_3 : List (MethodName × Nat) := [(⟨"SpoonVotesModel", "lets", "()V"⟩, 16), (⟨"SpoonVotesModel", "isPassed", "(I)Z"⟩, 16), (⟨"SpoonVotesModel", "turn", "(I)V"⟩, 16)]
theorem lw_r3 : ∀ q ∈ lw_privs_3, lw_okq q := List.forall_mem_cons.mpr ⟨lw_p32, List.forall_mem_cons.mpr ⟨lw_p33, List.forall_mem_cons.mpr ⟨lw_p34, fun _ h => absurd h List.not_mem_nil⟩⟩⟩
def lw_privs : List (MethodName × Nat) := lw_privs_1 ++ (lw_privs_2 ++ (lw_privs_3))
def lw_tbl : List Cond := k2_sels lw_privs ++ tables_1
theorem lw_privs_ok : ∀ q ∈ lw_privs, lw_okq q := by
  show ∀ q ∈ lw_privs_1 ++ (lw_privs_2 ++ (lw_privs_3)), lw_okq q
  exact List.forall_mem_append.mpr ⟨lw_r1, List.forall_mem_append.mpr ⟨lw_r2, lw_r3⟩⟩
-- ===== end of PART A; then your names; then what follows =====
/-! ===== BEGIN words of one list among another's, by their places ===== -/
/-! ===== END ===== -/

/-! ===== BEGIN printed: names, fields, word lists, decode rows ===== -/
def RX0 : String := "SpoonVotes$Pile"
def TX0 : u_T := fun k => match k with
  | 0 => ("SpoonVotes$Pile", "sittings", "[LSpoonVotes$Sitting;", true)
  | _ => ("SpoonVotes$Pile", "many", "I", false)
def tyX0 : Nat → FieldType := fun k => match k with
  | 0 => .array (.object "SpoonVotes$Sitting")
  | _ => .int
abbrev wsX00 : List Cond := u_ws RX0 TX0 2
theorem nmX0 : ∀ a, a < 2 → ∀ b, b < 2 → a ≠ b → (TX0 a).2.1 ≠ (TX0 b).2.1 := by decide +kernel
theorem tyX0_ok : ∀ k, k < 2 → parseFieldDescriptor (TX0 k).2.2.1 = some (tyX0 k) := by decide +kernel
abbrev cX0_init : ByteArray := prog_2_method_1_code
def yX0_init : MethodName := ⟨RX0, "<init>", "(I)V"⟩
abbrev cX0_clear : ByteArray := prog_2_method_2_code
def yX0_clear : MethodName := ⟨RX0, "clear", "()V"⟩
abbrev cX0_put : ByteArray := prog_2_method_3_code
def yX0_put : MethodName := ⟨RX0, "put", "(LSpoonVotes$Sitting;)V"⟩
abbrev cX0_dropLowest : ByteArray := prog_2_method_4_code
def yX0_dropLowest : MethodName := ⟨RX0, "dropLowest", "()V"⟩
abbrev cX0_takeLast : ByteArray := prog_2_method_5_code
def yX0_takeLast : MethodName := ⟨RX0, "takeLast", "(LSpoonVotes$Sitting;)Z"⟩
def RX1 : String := "SpoonVotes$Sets"
def TX1 : u_T := fun k => match k with
  | 0 => ("SpoonVotes$Sets", "reach", "[I", true)
  | 1 => ("SpoonVotes$Sets", "members", "I", false)
  | _ => ("SpoonVotes$Sets", "amount", "I", false)
def tyX1 : Nat → FieldType := fun k => match k with
  | 0 => .array .int
  | 1 => .int
  | _ => .int
abbrev wsX10 : List Cond := u_ws RX1 TX1 3
theorem nmX1 : ∀ a, a < 3 → ∀ b, b < 3 → a ≠ b → (TX1 a).2.1 ≠ (TX1 b).2.1 := by decide +kernel
theorem tyX1_ok : ∀ k, k < 3 → parseFieldDescriptor (TX1 k).2.2.1 = some (tyX1 k) := by decide +kernel
abbrev cX1_init : ByteArray := prog_3_method_1_code
def yX1_init : MethodName := ⟨RX1, "<init>", "()V"⟩
abbrev cX1_measure : ByteArray := prog_3_method_2_code
def yX1_measure : MethodName := ⟨RX1, "measure", "(LSpoonVotes$Sitting;)V"⟩
abbrev cX1_howMany : ByteArray := prog_3_method_3_code
def yX1_howMany : MethodName := ⟨RX1, "howMany", "()I"⟩
abbrev cX1_letsPass : ByteArray := prog_3_method_4_code
def yX1_letsPass : MethodName := ⟨RX1, "letsPass", "(I)Z"⟩
abbrev cX1_isIn : ByteArray := prog_3_method_5_code
def yX1_isIn : MethodName := ⟨RX1, "isIn", "(II)Z"⟩
abbrev cX1_fewest : ByteArray := prog_3_method_6_code
def yX1_fewest : MethodName := ⟨RX1, "fewest", "()I"⟩
abbrev cX1_orders : ByteArray := prog_3_method_7_code
def yX1_orders : MethodName := ⟨RX1, "orders", "()I"⟩
abbrev cX1_ordersDecidedBy : ByteArray := prog_3_method_8_code
def yX1_ordersDecidedBy : MethodName := ⟨RX1, "ordersDecidedBy", "(I)I"⟩
abbrev cX1_factorial : ByteArray := prog_3_method_9_code
def yX1_factorial : MethodName := ⟨RX1, "factorial", "(I)I"⟩
abbrev cX1_cases : ByteArray := prog_3_method_10_code
def yX1_cases : MethodName := ⟨RX1, "cases", "()I"⟩
abbrev cX1_passingCasesBy : ByteArray := prog_3_method_11_code
def yX1_passingCasesBy : MethodName := ⟨RX1, "passingCasesBy", "(I)I"⟩
abbrev cX1_casesOf : ByteArray := prog_3_method_12_code
def yX1_casesOf : MethodName := ⟨RX1, "casesOf", "(II)I"⟩
def RX2 : String := "SpoonVotes$Sightings"
def TX2 : u_T := fun k => match k with
  | 0 => ("SpoonVotes$Sightings", "who", "[I", true)
  | 1 => ("SpoonVotes$Sightings", "much", "[I", true)
  | _ => ("SpoonVotes$Sightings", "many", "I", false)
def tyX2 : Nat → FieldType := fun k => match k with
  | 0 => .array .int
  | 1 => .array .int
  | _ => .int
abbrev wsX20 : List Cond := u_ws RX2 TX2 3
theorem nmX2 : ∀ a, a < 3 → ∀ b, b < 3 → a ≠ b → (TX2 a).2.1 ≠ (TX2 b).2.1 := by decide +kernel
theorem tyX2_ok : ∀ k, k < 3 → parseFieldDescriptor (TX2 k).2.2.1 = some (tyX2 k) := by decide +kernel
abbrev cX2_init : ByteArray := prog_4_method_1_code
def yX2_init : MethodName := ⟨RX2, "<init>", "()V"⟩
abbrev cX2_clear : ByteArray := prog_4_method_2_code
def yX2_clear : MethodName := ⟨RX2, "clear", "()V"⟩
abbrev cX2_add : ByteArray := prog_4_method_3_code
def yX2_add : MethodName := ⟨RX2, "add", "(II)Z"⟩
abbrev cX2_allSoBetween : ByteArray := prog_4_method_4_code
def yX2_allSoBetween : MethodName := ⟨RX2, "allSoBetween", "(LSpoonVotes$Sitting;LSpoonVotes$Sitting;)Z"⟩
def RX3 : String := "SpoonVotes$Sitting"
def TX3 : u_T := fun k => match k with
  | 0 => ("SpoonVotes$Sitting", "kind", "[I", true)
  | 1 => ("SpoonVotes$Sitting", "spoon", "[I", true)
  | 2 => ("SpoonVotes$Sitting", "hunger", "[I", true)
  | 3 => ("SpoonVotes$Sitting", "bears", "[I", true)
  | 4 => ("SpoonVotes$Sitting", "eaten", "[I", true)
  | 5 => ("SpoonVotes$Sitting", "members", "I", false)
  | 6 => ("SpoonVotes$Sitting", "amount", "I", false)
  | 7 => ("SpoonVotes$Sitting", "heat", "I", false)
  | 8 => ("SpoonVotes$Sitting", "salt", "I", false)
  | 9 => ("SpoonVotes$Sitting", "rounds", "I", false)
  | _ => ("SpoonVotes$Sitting", "fastHunger", "I", false)
def tyX3 : Nat → FieldType := fun k => match k with
  | 0 => .array .int
  | 1 => .array .int
  | 2 => .array .int
  | 3 => .array .int
  | 4 => .array .int
  | 5 => .int
  | 6 => .int
  | 7 => .int
  | 8 => .int
  | 9 => .int
  | _ => .int
abbrev wsX30 : List Cond := u_ws RX3 TX3 11
theorem nmX3 : ∀ a, a < 11 → ∀ b, b < 11 → a ≠ b → (TX3 a).2.1 ≠ (TX3 b).2.1 := by decide +kernel
theorem tyX3_ok : ∀ k, k < 11 → parseFieldDescriptor (TX3 k).2.2.1 = some (tyX3 k) := by decide +kernel
abbrev cX3_init : ByteArray := prog_5_method_1_code
def yX3_init : MethodName := ⟨RX3, "<init>", "()V"⟩
abbrev cX3_clear : ByteArray := prog_5_method_2_code
def yX3_clear : MethodName := ⟨RX3, "clear", "()V"⟩
abbrev cX3_takeMember : ByteArray := prog_5_method_3_code
def yX3_takeMember : MethodName := ⟨RX3, "takeMember", "(IIII)Z"⟩
abbrev cX3_takePot : ByteArray := prog_5_method_4_code
def yX3_takePot : MethodName := ⟨RX3, "takePot", "(III)Z"⟩
abbrev cX3_takeRounds : ByteArray := prog_5_method_5_code
def yX3_takeRounds : MethodName := ⟨RX3, "takeRounds", "(I)Z"⟩
abbrev cX3_takeFastHunger : ByteArray := prog_5_method_6_code
def yX3_takeFastHunger : MethodName := ⟨RX3, "takeFastHunger", "(I)Z"⟩
abbrev cX3_takeOver : ByteArray := prog_5_method_7_code
def yX3_takeOver : MethodName := ⟨RX3, "takeOver", "(LSpoonVotes$Sitting;)V"⟩
abbrev cX3_share : ByteArray := prog_5_method_8_code
def yX3_share : MethodName := ⟨RX3, "share", "(I)I"⟩
abbrev cX3_spoonful : ByteArray := prog_5_method_9_code
def yX3_spoonful : MethodName := ⟨RX3, "spoonful", "(II)I"⟩
abbrev cX3_hottestFor : ByteArray := prog_5_method_10_code
def yX3_hottestFor : MethodName := ⟨RX3, "hottestFor", "(I)I"⟩
abbrev cX3_eatRound : ByteArray := prog_5_method_11_code
def yX3_eatRound : MethodName := ⟨RX3, "eatRound", "()I"⟩
abbrev cX3_eatRounds : ByteArray := prog_5_method_12_code
def yX3_eatRounds : MethodName := ⟨RX3, "eatRounds", "(I)I"⟩
abbrev cX3_roundsUntilEmpty : ByteArray := prog_5_method_13_code
def yX3_roundsUntilEmpty : MethodName := ⟨RX3, "roundsUntilEmpty", "()I"⟩
abbrev cX3_reach : ByteArray := prog_5_method_14_code
def yX3_reach : MethodName := ⟨RX3, "reach", "(I)I"⟩
abbrev cX3_reachOfAll : ByteArray := prog_5_method_15_code
def yX3_reachOfAll : MethodName := ⟨RX3, "reachOfAll", "()I"⟩
abbrev cX3_wouldPass : ByteArray := prog_5_method_16_code
def yX3_wouldPass : MethodName := ⟨RX3, "wouldPass", "()Z"⟩
abbrev cX3_putSalt : ByteArray := prog_5_method_17_code
def yX3_putSalt : MethodName := ⟨RX3, "putSalt", "()V"⟩
abbrev cX3_cookTo : ByteArray := prog_5_method_18_code
def yX3_cookTo : MethodName := ⟨RX3, "cookTo", "(I)V"⟩
abbrev cX3_waitOnce : ByteArray := prog_5_method_19_code
def yX3_waitOnce : MethodName := ⟨RX3, "waitOnce", "()V"⟩
abbrev cX3_exchangeSpoons : ByteArray := prog_5_method_20_code
def yX3_exchangeSpoons : MethodName := ⟨RX3, "exchangeSpoons", "(II)V"⟩
abbrev cX3_fastDay : ByteArray := prog_5_method_21_code
def yX3_fastDay : MethodName := ⟨RX3, "fastDay", "()V"⟩
abbrev cX3_liveBy : ByteArray := prog_5_method_22_code
def yX3_liveBy : MethodName := ⟨RX3, "liveBy", "(I)V"⟩
abbrev cX3_hungerOfAll : ByteArray := prog_5_method_23_code
def yX3_hungerOfAll : MethodName := ⟨RX3, "hungerOfAll", "()I"⟩
abbrev cX3_eatenInAll : ByteArray := prog_5_method_24_code
def yX3_eatenInAll : MethodName := ⟨RX3, "eatenInAll", "()I"⟩
abbrev cX3_sum : ByteArray := prog_5_method_25_code
def yX3_sum : MethodName := ⟨RX3, "sum", "([I)I"⟩
def RX4 : String := "SpoonVotes$Text"
def TX4 : u_T := fun k => match k with
  | 0 => ("SpoonVotes$Text", "letters", "[C", true)
  | 1 => ("SpoonVotes$Text", "numbers", "[I", true)
  | _ => ("SpoonVotes$Text", "length", "I", false)
def tyX4 : Nat → FieldType := fun k => match k with
  | 0 => .array .char
  | 1 => .array .int
  | _ => .int
abbrev wsX40 : List Cond := u_ws RX4 TX4 3
theorem nmX4 : ∀ a, a < 3 → ∀ b, b < 3 → a ≠ b → (TX4 a).2.1 ≠ (TX4 b).2.1 := by decide +kernel
theorem tyX4_ok : ∀ k, k < 3 → parseFieldDescriptor (TX4 k).2.2.1 = some (tyX4 k) := by decide +kernel
abbrev cX4_init : ByteArray := prog_6_method_1_code
def yX4_init : MethodName := ⟨RX4, "<init>", "()V"⟩
abbrev cX4_clear : ByteArray := prog_6_method_2_code
def yX4_clear : MethodName := ⟨RX4, "clear", "()V"⟩
abbrev cX4_append : ByteArray := prog_6_method_3_code
def yX4_append : MethodName := ⟨RX4, "append", "(C)Z"⟩
abbrev cX4_layOut : ByteArray := prog_6_method_4_code
def yX4_layOut : MethodName := ⟨RX4, "layOut", "(LSpoonVotes$Sitting;)I"⟩
abbrev cX4_readItem : ByteArray := prog_6_method_5_code
def yX4_readItem : MethodName := ⟨RX4, "readItem", "(I)I"⟩
abbrev cX4_isTaken : ByteArray := prog_6_method_6_code
def yX4_isTaken : MethodName := ⟨RX4, "isTaken", "(CLSpoonVotes$Sitting;)Z"⟩
abbrev cX4_numbersBehind : ByteArray := prog_6_method_7_code
def yX4_numbersBehind : MethodName := ⟨RX4, "numbersBehind", "(C)I"⟩
abbrev cX4_figuresAt : ByteArray := prog_6_method_8_code
def yX4_figuresAt : MethodName := ⟨RX4, "figuresAt", "(I)I"⟩
abbrev cX4_isFigure : ByteArray := prog_6_method_9_code
def yX4_isFigure : MethodName := ⟨RX4, "isFigure", "(I)Z"⟩
abbrev cX4_figure : ByteArray := prog_6_method_10_code
def yX4_figure : MethodName := ⟨RX4, "figure", "(I)I"⟩
abbrev cX4_at : ByteArray := prog_6_method_11_code
def yX4_at : MethodName := ⟨RX4, "at", "(I)C"⟩
def RX5 : String := "SpoonVotes"
def TX5 : u_T := fun k => match k with
  | 0 => ("SpoonVotes", "text", "LSpoonVotes$Text;", true)
  | 1 => ("SpoonVotes", "now", "LSpoonVotes$Sitting;", true)
  | 2 => ("SpoonVotes", "trial", "LSpoonVotes$Sitting;", true)
  | 3 => ("SpoonVotes", "sets", "LSpoonVotes$Sets;", true)
  | 4 => ("SpoonVotes", "sightings", "LSpoonVotes$Sightings;", true)
  | 5 => ("SpoonVotes", "undoable", "LSpoonVotes$Pile;", true)
  | _ => ("SpoonVotes", "kept", "LSpoonVotes$Pile;", true)
def tyX5 : Nat → FieldType := fun k => match k with
  | 0 => .object "SpoonVotes$Text"
  | 1 => .object "SpoonVotes$Sitting"
  | 2 => .object "SpoonVotes$Sitting"
  | 3 => .object "SpoonVotes$Sets"
  | 4 => .object "SpoonVotes$Sightings"
  | 5 => .object "SpoonVotes$Pile"
  | _ => .object "SpoonVotes$Pile"
abbrev wsX50 : List Cond := u_ws RX5 TX5 7
theorem nmX5 : ∀ a, a < 7 → ∀ b, b < 7 → a ≠ b → (TX5 a).2.1 ≠ (TX5 b).2.1 := by decide +kernel
theorem tyX5_ok : ∀ k, k < 7 → parseFieldDescriptor (TX5 k).2.2.1 = some (tyX5 k) := by decide +kernel
abbrev cX5_init : ByteArray := prog_1_method_1_code
def yX5_init : MethodName := ⟨RX5, "<init>", "()V"⟩
abbrev cX5_write : ByteArray := prog_1_method_2_code
def yX5_write : MethodName := ⟨RX5, "write", "(I)I"⟩
abbrev cX5_wipe : ByteArray := prog_1_method_3_code
def yX5_wipe : MethodName := ⟨RX5, "wipe", "()I"⟩
abbrev cX5_fault : ByteArray := prog_1_method_4_code
def yX5_fault : MethodName := ⟨RX5, "fault", "()I"⟩
abbrev cX5_lay : ByteArray := prog_1_method_5_code
def yX5_lay : MethodName := ⟨RX5, "lay", "()I"⟩
abbrev cX5_member : ByteArray := prog_1_method_6_code
def yX5_member : MethodName := ⟨RX5, "member", "(II)I"⟩
abbrev cX5_eat : ByteArray := prog_1_method_7_code
def yX5_eat : MethodName := ⟨RX5, "eat", "(I)I"⟩
abbrev cX5_salt : ByteArray := prog_1_method_8_code
def yX5_salt : MethodName := ⟨RX5, "salt", "()I"⟩
abbrev cX5_cook : ByteArray := prog_1_method_9_code
def yX5_cook : MethodName := ⟨RX5, "cook", "(I)I"⟩
abbrev cX5_cool : ByteArray := prog_1_method_10_code
def yX5_cool : MethodName := ⟨RX5, "cool", "()I"⟩
abbrev cX5_trade : ByteArray := prog_1_method_11_code
def yX5_trade : MethodName := ⟨RX5, "trade", "(II)I"⟩
abbrev cX5_fast : ByteArray := prog_1_method_12_code
def yX5_fast : MethodName := ⟨RX5, "fast", "()I"⟩
abbrev cX5_undo : ByteArray := prog_1_method_13_code
def yX5_undo : MethodName := ⟨RX5, "undo", "()I"⟩
abbrev cX5_passes : ByteArray := prog_1_method_14_code
def yX5_passes : MethodName := ⟨RX5, "passes", "()I"⟩
abbrev cX5_left : ByteArray := prog_1_method_15_code
def yX5_left : MethodName := ⟨RX5, "left", "(I)I"⟩
abbrev cX5_scraper : ByteArray := prog_1_method_16_code
def yX5_scraper : MethodName := ⟨RX5, "scraper", "()I"⟩
abbrev cX5_spoil : ByteArray := prog_1_method_17_code
def yX5_spoil : MethodName := ⟨RX5, "spoil", "()I"⟩
abbrev cX5_waits : ByteArray := prog_1_method_18_code
def yX5_waits : MethodName := ⟨RX5, "waits", "()I"⟩
abbrev cX5_most : ByteArray := prog_1_method_19_code
def yX5_most : MethodName := ⟨RX5, "most", "()I"⟩
abbrev cX5_fasts : ByteArray := prog_1_method_20_code
def yX5_fasts : MethodName := ⟨RX5, "fasts", "()I"⟩
abbrev cX5_cabal : ByteArray := prog_1_method_21_code
def yX5_cabal : MethodName := ⟨RX5, "cabal", "(I)I"⟩
abbrev cX5_trades : ByteArray := prog_1_method_22_code
def yX5_trades : MethodName := ⟨RX5, "trades", "()I"⟩
abbrev cX5_power : ByteArray := prog_1_method_23_code
def yX5_power : MethodName := ⟨RX5, "power", "(II)I"⟩
abbrev cX5_seen : ByteArray := prog_1_method_24_code
def yX5_seen : MethodName := ⟨RX5, "seen", "(II)I"⟩
abbrev cX5_forget : ByteArray := prog_1_method_25_code
def yX5_forget : MethodName := ⟨RX5, "forget", "()I"⟩
abbrev cX5_may : ByteArray := prog_1_method_26_code
def yX5_may : MethodName := ⟨RX5, "may", "(I)I"⟩
abbrev cX5_likely : ByteArray := prog_1_method_27_code
def yX5_likely : MethodName := ⟨RX5, "likely", "(II)I"⟩
abbrev cX5_century : ByteArray := prog_1_method_28_code
def yX5_century : MethodName := ⟨RX5, "century", "(III)I"⟩
abbrev cX5_keep : ByteArray := prog_1_method_29_code
def yX5_keep : MethodName := ⟨RX5, "keep", "()I"⟩
abbrev cX5_back : ByteArray := prog_1_method_30_code
def yX5_back : MethodName := ⟨RX5, "back", "()I"⟩
abbrev cX5_count : ByteArray := prog_1_method_31_code
def yX5_count : MethodName := ⟨RX5, "count", "(I)I"⟩
abbrev cX5_isNoMember : ByteArray := prog_1_method_32_code
def yX5_isNoMember : MethodName := ⟨RX5, "isNoMember", "(I)Z"⟩
abbrev cX5_isOutside : ByteArray := prog_1_method_33_code
def yX5_isOutside : MethodName := ⟨RX5, "isOutside", "(III)Z"⟩
abbrev cX5_draw : ByteArray := prog_1_method_34_code
def yX5_draw : MethodName := ⟨RX5, "draw", "(II)I"⟩
abbrev cX5_inLowestTerms : ByteArray := prog_1_method_35_code
def yX5_inLowestTerms : MethodName := ⟨RX5, "inLowestTerms", "(III)I"⟩
abbrev cX5_commonDivisor : ByteArray := prog_1_method_36_code
def yX5_commonDivisor : MethodName := ⟨RX5, "commonDivisor", "(II)I"⟩
def RX6 : String := "SpoonVotesModel"
def TX6 : u_T := fun k => match k with
  | 0 => ("SpoonVotesModel", "text", "[I", true)
  | 1 => ("SpoonVotesModel", "typed", "I", false)
  | 2 => ("SpoonVotesModel", "told", "[I", true)
  | 3 => ("SpoonVotesModel", "draft", "[I", true)
  | 4 => ("SpoonVotesModel", "begun", "[I", true)
  | 5 => ("SpoonVotesModel", "s", "[I", true)
  | 6 => ("SpoonVotesModel", "past", "[I", true)
  | 7 => ("SpoonVotesModel", "known", "I", false)
  | 8 => ("SpoonVotesModel", "images", "[I", true)
  | 9 => ("SpoonVotesModel", "kept", "I", false)
  | 10 => ("SpoonVotesModel", "notes", "[I", true)
  | 11 => ("SpoonVotesModel", "noted", "I", false)
  | 12 => ("SpoonVotesModel", "at", "I", false)
  | 13 => ("SpoonVotesModel", "last", "I", false)
  | 14 => ("SpoonVotesModel", "held", "[I", true)
  | _ => ("SpoonVotesModel", "tried", "[I", true)
def tyX6 : Nat → FieldType := fun k => match k with
  | 0 => .array .int
  | 1 => .int
  | 2 => .array .int
  | 3 => .array .int
  | 4 => .array .int
  | 5 => .array .int
  | 6 => .array .int
  | 7 => .int
  | 8 => .array .int
  | 9 => .int
  | 10 => .array .int
  | 11 => .int
  | 12 => .int
  | 13 => .int
  | 14 => .array .int
  | _ => .array .int
abbrev wsX60 : List Cond := u_ws RX6 TX6 16
theorem nmX6 : ∀ a, a < 16 → ∀ b, b < 16 → a ≠ b → (TX6 a).2.1 ≠ (TX6 b).2.1 := by decide +kernel
theorem tyX6_ok : ∀ k, k < 16 → parseFieldDescriptor (TX6 k).2.2.1 = some (tyX6 k) := by decide +kernel
abbrev cX6_init : ByteArray := prog_8_method_1_code
def yX6_init : MethodName := ⟨RX6, "<init>", "()V"⟩
abbrev cX6_in : ByteArray := prog_8_method_3_code
def yX6_in : MethodName := ⟨RX6, "in", "(III)Z"⟩
abbrev cX6_isMember : ByteArray := prog_8_method_4_code
def yX6_isMember : MethodName := ⟨RX6, "isMember", "(I)Z"⟩
abbrev cX6_all : ByteArray := prog_8_method_5_code
def yX6_all : MethodName := ⟨RX6, "all", "()I"⟩
abbrev cX6_ones : ByteArray := prog_8_method_6_code
def yX6_ones : MethodName := ⟨RX6, "ones", "(I)I"⟩
abbrev cX6_write : ByteArray := prog_8_method_7_code
def yX6_write : MethodName := ⟨RX6, "write", "(I)I"⟩
abbrev cX6_wipe : ByteArray := prog_8_method_8_code
def yX6_wipe : MethodName := ⟨RX6, "wipe", "()I"⟩
abbrev cX6_letterAt : ByteArray := prog_8_method_9_code
def yX6_letterAt : MethodName := ⟨RX6, "letterAt", "(I)I"⟩
abbrev cX6_isFigure : ByteArray := prog_8_method_10_code
def yX6_isFigure : MethodName := ⟨RX6, "isFigure", "(I)Z"⟩
abbrev cX6_number : ByteArray := prog_8_method_11_code
def yX6_number : MethodName := ⟨RX6, "number", "(III)I"⟩
abbrev cX6_begins : ByteArray := prog_8_method_12_code
def yX6_begins : MethodName := ⟨RX6, "begins", "()V"⟩
abbrev cX6_memberOf : ByteArray := prog_8_method_13_code
def yX6_memberOf : MethodName := ⟨RX6, "memberOf", "(IIII)V"⟩
abbrev cX6_readsItem : ByteArray := prog_8_method_14_code
def yX6_readsItem : MethodName := ⟨RX6, "readsItem", "(I)Z"⟩
abbrev cX6_readsAll : ByteArray := prog_8_method_15_code
def yX6_readsAll : MethodName := ⟨RX6, "readsAll", "()I"⟩
abbrev cX6_fault : ByteArray := prog_8_method_16_code
def yX6_fault : MethodName := ⟨RX6, "fault", "()I"⟩
abbrev cX6_lays : ByteArray := prog_8_method_17_code
def yX6_lays : MethodName := ⟨RX6, "lays", "()V"⟩
abbrev cX6_lay : ByteArray := prog_8_method_18_code
def yX6_lay : MethodName := ⟨RX6, "lay", "()I"⟩
abbrev cX6_wouldEat : ByteArray := prog_8_method_19_code
def yX6_wouldEat : MethodName := ⟨RX6, "wouldEat", "(I)I"⟩
abbrev cX6_member : ByteArray := prog_8_method_20_code
def yX6_member : MethodName := ⟨RX6, "member", "(II)I"⟩
abbrev cX6_keeps : ByteArray := prog_8_method_21_code
def yX6_keeps : MethodName := ⟨RX6, "keeps", "()V"⟩
abbrev cX6_cools : ByteArray := prog_8_method_22_code
def yX6_cools : MethodName := ⟨RX6, "cools", "()V"⟩
abbrev cX6_eats : ByteArray := prog_8_method_23_code
def yX6_eats : MethodName := ⟨RX6, "eats", "(I)I"⟩
abbrev cX6_eat : ByteArray := prog_8_method_24_code
def yX6_eat : MethodName := ⟨RX6, "eat", "(I)I"⟩
abbrev cX6_salt : ByteArray := prog_8_method_25_code
def yX6_salt : MethodName := ⟨RX6, "salt", "()I"⟩
abbrev cX6_cooks : ByteArray := prog_8_method_26_code
def yX6_cooks : MethodName := ⟨RX6, "cooks", "(I)V"⟩
abbrev cX6_cook : ByteArray := prog_8_method_27_code
def yX6_cook : MethodName := ⟨RX6, "cook", "(I)I"⟩
abbrev cX6_cool : ByteArray := prog_8_method_28_code
def yX6_cool : MethodName := ⟨RX6, "cool", "()I"⟩
abbrev cX6_swaps : ByteArray := prog_8_method_29_code
def yX6_swaps : MethodName := ⟨RX6, "swaps", "(II)V"⟩
abbrev cX6_trade : ByteArray := prog_8_method_30_code
def yX6_trade : MethodName := ⟨RX6, "trade", "(II)I"⟩
abbrev cX6_sumOf : ByteArray := prog_8_method_31_code
def yX6_sumOf : MethodName := ⟨RX6, "sumOf", "(I)I"⟩
abbrev cX6_starves : ByteArray := prog_8_method_32_code
def yX6_starves : MethodName := ⟨RX6, "starves", "()V"⟩
abbrev cX6_fast : ByteArray := prog_8_method_33_code
def yX6_fast : MethodName := ⟨RX6, "fast", "()I"⟩
abbrev cX6_undo : ByteArray := prog_8_method_34_code
def yX6_undo : MethodName := ⟨RX6, "undo", "()I"⟩
abbrev cX6_holds : ByteArray := prog_8_method_35_code
def yX6_holds : MethodName := ⟨RX6, "holds", "()V"⟩
abbrev cX6_lets : ByteArray := prog_8_method_36_code
def yX6_lets : MethodName := ⟨RX6, "lets", "()V"⟩
abbrev cX6_passesBy : ByteArray := prog_8_method_37_code
def yX6_passesBy : MethodName := ⟨RX6, "passesBy", "(I)I"⟩
abbrev cX6_isPassed : ByteArray := prog_8_method_38_code
def yX6_isPassed : MethodName := ⟨RX6, "isPassed", "(I)Z"⟩
abbrev cX6_passes : ByteArray := prog_8_method_39_code
def yX6_passes : MethodName := ⟨RX6, "passes", "()I"⟩
abbrev cX6_left : ByteArray := prog_8_method_40_code
def yX6_left : MethodName := ⟨RX6, "left", "(I)I"⟩
abbrev cX6_scraper : ByteArray := prog_8_method_41_code
def yX6_scraper : MethodName := ⟨RX6, "scraper", "()I"⟩
abbrev cX6_spoil : ByteArray := prog_8_method_42_code
def yX6_spoil : MethodName := ⟨RX6, "spoil", "()I"⟩
abbrev cX6_waits : ByteArray := prog_8_method_43_code
def yX6_waits : MethodName := ⟨RX6, "waits", "()I"⟩
abbrev cX6_most : ByteArray := prog_8_method_44_code
def yX6_most : MethodName := ⟨RX6, "most", "()I"⟩
abbrev cX6_fasts : ByteArray := prog_8_method_45_code
def yX6_fasts : MethodName := ⟨RX6, "fasts", "()I"⟩
abbrev cX6_cabal : ByteArray := prog_8_method_46_code
def yX6_cabal : MethodName := ⟨RX6, "cabal", "(I)I"⟩
abbrev cX6_trades : ByteArray := prog_8_method_47_code
def yX6_trades : MethodName := ⟨RX6, "trades", "()I"⟩
abbrev cX6_orders : ByteArray := prog_8_method_48_code
def yX6_orders : MethodName := ⟨RX6, "orders", "(I)I"⟩
abbrev cX6_partOf : ByteArray := prog_8_method_49_code
def yX6_partOf : MethodName := ⟨RX6, "partOf", "(III)I"⟩
abbrev cX6_power : ByteArray := prog_8_method_50_code
def yX6_power : MethodName := ⟨RX6, "power", "(II)I"⟩
abbrev cX6_seen : ByteArray := prog_8_method_51_code
def yX6_seen : MethodName := ⟨RX6, "seen", "(II)I"⟩
abbrev cX6_forget : ByteArray := prog_8_method_52_code
def yX6_forget : MethodName := ⟨RX6, "forget", "()I"⟩
abbrev cX6_may : ByteArray := prog_8_method_53_code
def yX6_may : MethodName := ⟨RX6, "may", "(I)I"⟩
abbrev cX6_likely : ByteArray := prog_8_method_54_code
def yX6_likely : MethodName := ⟨RX6, "likely", "(II)I"⟩
abbrev cX6_turn : ByteArray := prog_8_method_55_code
def yX6_turn : MethodName := ⟨RX6, "turn", "(I)V"⟩
abbrev cX6_century : ByteArray := prog_8_method_56_code
def yX6_century : MethodName := ⟨RX6, "century", "(III)I"⟩
abbrev cX6_keep : ByteArray := prog_8_method_57_code
def yX6_keep : MethodName := ⟨RX6, "keep", "()I"⟩
abbrev cX6_back : ByteArray := prog_8_method_58_code
def yX6_back : MethodName := ⟨RX6, "back", "()I"⟩
abbrev cX6_count : ByteArray := prog_8_method_59_code
def yX6_count : MethodName := ⟨RX6, "count", "(I)I"⟩
def RJ6 : String := "java/lang/Integer"
def TJ6 : u_T := fun k => match k with
  | _ => ("", "", "", false)
def tyJ6 : Nat → FieldType := fun k => match k with
  | _ => .int
abbrev wsJ60 : List Cond := u_ws RJ6 TJ6 0
theorem nmJ6 : ∀ a, a < 0 → ∀ b, b < 0 → a ≠ b → (TJ6 a).2.1 ≠ (TJ6 b).2.1 := by decide +kernel
theorem tyJ6_ok : ∀ k, k < 0 → parseFieldDescriptor (TJ6 k).2.2.1 = some (tyJ6 k) := by decide +kernel
abbrev cJ6_bitCount_0f7a4 : ByteArray := prog_9_method_49_code
def yJ6_bitCount_0f7a4 : MethodName := ⟨RJ6, "bitCount", "(I)I"⟩
def RJ9 : String := "java/lang/Math"
def TJ9 : u_T := fun k => match k with
  | _ => ("", "", "", false)
def tyJ9 : Nat → FieldType := fun k => match k with
  | _ => .int
abbrev wsJ90 : List Cond := u_ws RJ9 TJ9 0
theorem nmJ9 : ∀ a, a < 0 → ∀ b, b < 0 → a ≠ b → (TJ9 a).2.1 ≠ (TJ9 b).2.1 := by decide +kernel
theorem tyJ9_ok : ∀ k, k < 0 → parseFieldDescriptor (TJ9 k).2.2.1 = some (tyJ9 k) := by decide +kernel
abbrev cJ9_max_7cf53 : ByteArray := prog_10_method_65_code
def yJ9_max_7cf53 : MethodName := ⟨RJ9, "max", "(II)I"⟩
abbrev cJ9_min_7cf53 : ByteArray := prog_10_method_69_code
def yJ9_min_7cf53 : MethodName := ⟨RJ9, "min", "(II)I"⟩
def RJ0 : String := "java/lang/String"
def TJ0 : u_T := fun k => match k with
  | _ => ("", "", "", false)
def tyJ0 : Nat → FieldType := fun k => match k with
  | _ => .int
abbrev wsJ00 : List Cond := u_ws RJ0 TJ0 0
theorem nmJ0 : ∀ a, a < 0 → ∀ b, b < 0 → a ≠ b → (TJ0 a).2.1 ≠ (TJ0 b).2.1 := by decide +kernel
theorem tyJ0_ok : ∀ k, k < 0 → parseFieldDescriptor (TJ0 k).2.2.1 = some (tyJ0 k) := by decide +kernel
abbrev cJ0_length_8abf5 : ByteArray := prog_11_method_54_code
def yJ0_length_8abf5 : MethodName := ⟨RJ0, "length", "()I"⟩
abbrev cJ0_charAt_5068e : ByteArray := prog_11_method_56_code
def yJ0_charAt_5068e : MethodName := ⟨RJ0, "charAt", "(I)C"⟩
abbrev cJ0_coder_7d493 : ByteArray := prog_11_method_152_code
def yJ0_coder_7d493 : MethodName := ⟨RJ0, "coder", "()B"⟩
abbrev cJ0_isLatin1_aae02 : ByteArray := prog_11_method_154_code
def yJ0_isLatin1_aae02 : MethodName := ⟨RJ0, "isLatin1", "()Z"⟩
abbrev cJ0_checkIndex_df160 : ByteArray := prog_11_method_155_code
def yJ0_checkIndex_df160 : MethodName := ⟨RJ0, "checkIndex", "(II)V"⟩
def RJ1 : String := "java/lang/StringLatin1"
def TJ1 : u_T := fun k => match k with
  | _ => ("", "", "", false)
def tyJ1 : Nat → FieldType := fun k => match k with
  | _ => .int
abbrev wsJ10 : List Cond := u_ws RJ1 TJ1 0
theorem nmJ1 : ∀ a, a < 0 → ∀ b, b < 0 → a ≠ b → (TJ1 a).2.1 ≠ (TJ1 b).2.1 := by decide +kernel
theorem tyJ1_ok : ∀ k, k < 0 → parseFieldDescriptor (TJ1 k).2.2.1 = some (tyJ1 k) := by decide +kernel
abbrev cJ1_charAt_3b067 : ByteArray := prog_12_method_2_code
def yJ1_charAt_3b067 : MethodName := ⟨RJ1, "charAt", "([BI)C"⟩
def RJ2 : String := "java/lang/StringUTF16"
def TJ2 : u_T := fun k => match k with
  | _ => ("", "", "", false)
def tyJ2 : Nat → FieldType := fun k => match k with
  | _ => .int
abbrev wsJ20 : List Cond := u_ws RJ2 TJ2 0
theorem nmJ2 : ∀ a, a < 0 → ∀ b, b < 0 → a ≠ b → (TJ2 a).2.1 ≠ (TJ2 b).2.1 := by decide +kernel
theorem tyJ2_ok : ∀ k, k < 0 → parseFieldDescriptor (TJ2 k).2.2.1 = some (tyJ2 k) := by decide +kernel
abbrev cJ2_getChar_3b067 : ByteArray := prog_13_method_5_code
def yJ2_getChar_3b067 : MethodName := ⟨RJ2, "getChar", "([BI)C"⟩
abbrev cJ2_length_9d52b : ByteArray := prog_13_method_6_code
def yJ2_length_9d52b : MethodName := ⟨RJ2, "length", "([B)I"⟩
abbrev cJ2_charAt_3b067 : ByteArray := prog_13_method_83_code
def yJ2_charAt_3b067 : MethodName := ⟨RJ2, "charAt", "([BI)C"⟩
abbrev cJ2_checkIndex_2214a : ByteArray := prog_13_method_91_code
def yJ2_checkIndex_2214a : MethodName := ⟨RJ2, "checkIndex", "(I[B)V"⟩
def RJ10 : String := "java/lang/System"
def TJ10 : u_T := fun k => match k with
  | _ => ("", "", "", false)
def tyJ10 : Nat → FieldType := fun k => match k with
  | _ => .int
abbrev wsJ100 : List Cond := u_ws RJ10 TJ10 0
theorem nmJ10 : ∀ a, a < 0 → ∀ b, b < 0 → a ≠ b → (TJ10 a).2.1 ≠ (TJ10 b).2.1 := by decide +kernel
theorem tyJ10_ok : ∀ k, k < 0 → parseFieldDescriptor (TJ10 k).2.2.1 = some (tyJ10 k) := by decide +kernel
def RJ3 : String := "jdk/internal/util/Preconditions"
def TJ3 : u_T := fun k => match k with
  | _ => ("", "", "", false)
def tyJ3 : Nat → FieldType := fun k => match k with
  | _ => .int
abbrev wsJ30 : List Cond := u_ws RJ3 TJ3 0
theorem nmJ3 : ∀ a, a < 0 → ∀ b, b < 0 → a ≠ b → (TJ3 a).2.1 ≠ (TJ3 b).2.1 := by decide +kernel
theorem tyJ3_ok : ∀ k, k < 0 → parseFieldDescriptor (TJ3 k).2.2.1 = some (tyJ3 k) := by decide +kernel
abbrev cJ3_checkIndex_8e157 : ByteArray := prog_15_method_11_code
def yJ3_checkIndex_8e157 : MethodName := ⟨RJ3, "checkIndex", "(IILjava/util/function/BiFunction;)I"⟩
def RL : String := "SpoonVotesLaw"
abbrev cL_law : ByteArray := code
def yL_law : MethodName := ⟨RL, "law", "([I)Z"⟩
abbrev vwCl : List vw_C := [(RX0, TX0, 2), (RX1, TX1, 3), (RX2, TX2, 3), (RX3, TX3, 11), (RX4, TX4, 3), (RX5, TX5, 7), (RX6, TX6, 16)]
/-- the words that every contract speaks of: those of the tables that stay -/
def zTB : List Cond := lw_tbl.filter goodWord
theorem zTB_in : ∀ w ∈ zTB, w ∈ lw_tbl := fun w h => (List.mem_filter.mp h).1
theorem zTB_good : ∀ w ∈ zTB, goodWord w = true := fun w h => (List.mem_filter.mp h).2
theorem zTB_of {w : Cond} (h : w ∈ lw_tbl) (hg : goodWord w = true) : w ∈ zTB := List.mem_filter.mpr ⟨h, hg⟩
theorem inX0 : ∀ w ∈ wsX00, w ∈ zTB := fun w h => zTB_of ((by decide +kernel : ∀ w ∈ wsX00, w ∈ lw_tbl) w h) ((by decide +kernel : ∀ w ∈ wsX00, goodWord w = true) w h)
theorem inX1 : ∀ w ∈ wsX10, w ∈ zTB := fun w h => zTB_of ((by decide +kernel : ∀ w ∈ wsX10, w ∈ lw_tbl) w h) ((by decide +kernel : ∀ w ∈ wsX10, goodWord w = true) w h)
theorem inX2 : ∀ w ∈ wsX20, w ∈ zTB := fun w h => zTB_of ((by decide +kernel : ∀ w ∈ wsX20, w ∈ lw_tbl) w h) ((by decide +kernel : ∀ w ∈ wsX20, goodWord w = true) w h)
theorem inX3 : ∀ w ∈ wsX30, w ∈ zTB := fun w h => zTB_of ((by decide +kernel : ∀ w ∈ wsX30, w ∈ lw_tbl) w h) ((by decide +kernel : ∀ w ∈ wsX30, goodWord w = true) w h)
theorem inX4 : ∀ w ∈ wsX40, w ∈ zTB := fun w h => zTB_of ((by decide +kernel : ∀ w ∈ wsX40, w ∈ lw_tbl) w h) ((by decide +kernel : ∀ w ∈ wsX40, goodWord w = true) w h)
theorem inX5 : ∀ w ∈ wsX50, w ∈ zTB := fun w h => zTB_of ((by decide +kernel : ∀ w ∈ wsX50, w ∈ lw_tbl) w h) ((by decide +kernel : ∀ w ∈ wsX50, goodWord w = true) w h)
theorem inX6 : ∀ w ∈ wsX60, w ∈ zTB := fun w h => zTB_of ((by decide +kernel : ∀ w ∈ wsX60, w ∈ lw_tbl) w h) ((by decide +kernel : ∀ w ∈ wsX60, goodWord w = true) w h)
end
section
theorem dX3_init_0 : decode cX3_init 0 = .ok (.aload_n 0, 1) := by decide +kernel
theorem dX3_init_1 : decode cX3_init 1 = .ok (.invokespecial 3, 3) := by decide +kernel
theorem dX3_init_4 : decode cX3_init 4 = .ok (.aload_n 0, 1) := by decide +kernel
theorem dX3_init_5 : decode cX3_init 5 = .ok (.bipush 7, 2) := by decide +kernel
theorem dX3_init_7 : decode cX3_init 7 = .ok (.newarray .int, 2) := by decide +kernel
theorem dX3_init_9 : decode cX3_init 9 = .ok (.putfield 9, 3) := by decide +kernel
theorem dX3_init_12 : decode cX3_init 12 = .ok (.aload_n 0, 1) := by decide +kernel
theorem dX3_init_13 : decode cX3_init 13 = .ok (.bipush 7, 2) := by decide +kernel
theorem dX3_init_15 : decode cX3_init 15 = .ok (.newarray .int, 2) := by decide +kernel
theorem dX3_init_17 : decode cX3_init 17 = .ok (.putfield 15, 3) := by decide +kernel
theorem dX3_init_20 : decode cX3_init 20 = .ok (.aload_n 0, 1) := by decide +kernel
theorem dX3_init_21 : decode cX3_init 21 = .ok (.bipush 7, 2) := by decide +kernel
theorem dX3_init_23 : decode cX3_init 23 = .ok (.newarray .int, 2) := by decide +kernel
theorem dX3_init_25 : decode cX3_init 25 = .ok (.putfield 18, 3) := by decide +kernel
theorem dX3_init_28 : decode cX3_init 28 = .ok (.aload_n 0, 1) := by decide +kernel
theorem dX3_init_29 : decode cX3_init 29 = .ok (.bipush 7, 2) := by decide +kernel
theorem dX3_init_31 : decode cX3_init 31 = .ok (.newarray .int, 2) := by decide +kernel
theorem dX3_init_33 : decode cX3_init 33 = .ok (.putfield 21, 3) := by decide +kernel
theorem dX3_init_36 : decode cX3_init 36 = .ok (.aload_n 0, 1) := by decide +kernel
theorem dX3_init_37 : decode cX3_init 37 = .ok (.bipush 7, 2) := by decide +kernel
theorem dX3_init_39 : decode cX3_init 39 = .ok (.newarray .int, 2) := by decide +kernel
theorem dX3_init_41 : decode cX3_init 41 = .ok (.putfield 24, 3) := by decide +kernel
theorem dX3_init_44 : decode cX3_init 44 = .ok (.return_, 1) := by decide +kernel
theorem dX3_clear_0 : decode cX3_clear 0 = .ok (.aload_n 0, 1) := by decide +kernel
theorem dX3_clear_1 : decode cX3_clear 1 = .ok (.iconst 0, 1) := by decide +kernel
theorem dX3_clear_2 : decode cX3_clear 2 = .ok (.putfield 27, 3) := by decide +kernel
theorem dX3_clear_5 : decode cX3_clear 5 = .ok (.aload_n 0, 1) := by decide +kernel
theorem dX3_clear_6 : decode cX3_clear 6 = .ok (.bipush 30, 2) := by decide +kernel
theorem dX3_clear_8 : decode cX3_clear 8 = .ok (.putfield 31, 3) := by decide +kernel
theorem dX3_clear_11 : decode cX3_clear 11 = .ok (.aload_n 0, 1) := by decide +kernel
theorem dX3_clear_12 : decode cX3_clear 12 = .ok (.iconst 4, 1) := by decide +kernel
theorem dX3_clear_13 : decode cX3_clear 13 = .ok (.putfield 34, 3) := by decide +kernel
theorem dX3_clear_16 : decode cX3_clear 16 = .ok (.aload_n 0, 1) := by decide +kernel
theorem dX3_clear_17 : decode cX3_clear 17 = .ok (.iconst 1, 1) := by decide +kernel
theorem dX3_clear_18 : decode cX3_clear 18 = .ok (.putfield 37, 3) := by decide +kernel
theorem dX3_clear_21 : decode cX3_clear 21 = .ok (.aload_n 0, 1) := by decide +kernel
theorem dX3_clear_22 : decode cX3_clear 22 = .ok (.iconst 5, 1) := by decide +kernel
theorem dX3_clear_23 : decode cX3_clear 23 = .ok (.putfield 40, 3) := by decide +kernel
theorem dX3_clear_26 : decode cX3_clear 26 = .ok (.aload_n 0, 1) := by decide +kernel
theorem dX3_clear_27 : decode cX3_clear 27 = .ok (.bipush 6, 2) := by decide +kernel
theorem dX3_clear_29 : decode cX3_clear 29 = .ok (.putfield 43, 3) := by decide +kernel
theorem dX3_clear_32 : decode cX3_clear 32 = .ok (.return_, 1) := by decide +kernel
theorem dX3_takeMember_0 : decode cX3_takeMember 0 = .ok (.iload_n 1, 1) := by decide +kernel
theorem dX3_takeMember_1 : decode cX3_takeMember 1 = .ok (.iconst 0, 1) := by decide +kernel
theorem dX3_takeMember_2 : decode cX3_takeMember 2 = .ok (.iconst 3, 1) := by decide +kernel
theorem dX3_takeMember_3 : decode cX3_takeMember 3 = .ok (.invokestatic 46, 3) := by decide +kernel
theorem dX3_takeMember_6 : decode cX3_takeMember 6 = .ok (.ifCond .ne 47, 3) := by decide +kernel
theorem dX3_takeMember_9 : decode cX3_takeMember 9 = .ok (.iload_n 2, 1) := by decide +kernel
theorem dX3_takeMember_10 : decode cX3_takeMember 10 = .ok (.iconst 1, 1) := by decide +kernel
theorem dX3_takeMember_11 : decode cX3_takeMember 11 = .ok (.bipush 9, 2) := by decide +kernel
theorem dX3_takeMember_13 : decode cX3_takeMember 13 = .ok (.invokestatic 46, 3) := by decide +kernel
theorem dX3_takeMember_16 : decode cX3_takeMember 16 = .ok (.ifCond .ne 37, 3) := by decide +kernel
theorem dX3_takeMember_19 : decode cX3_takeMember 19 = .ok (.iload_n 3, 1) := by decide +kernel
theorem dX3_takeMember_20 : decode cX3_takeMember 20 = .ok (.iconst 0, 1) := by decide +kernel
theorem dX3_takeMember_21 : decode cX3_takeMember 21 = .ok (.bipush 60, 2) := by decide +kernel
theorem dX3_takeMember_23 : decode cX3_takeMember 23 = .ok (.invokestatic 46, 3) := by decide +kernel
theorem dX3_takeMember_26 : decode cX3_takeMember 26 = .ok (.ifCond .ne 27, 3) := by decide +kernel
theorem dX3_takeMember_29 : decode cX3_takeMember 29 = .ok (.iload 4, 2) := by decide +kernel
theorem dX3_takeMember_31 : decode cX3_takeMember 31 = .ok (.iconst 0, 1) := by decide +kernel
theorem dX3_takeMember_32 : decode cX3_takeMember 32 = .ok (.bipush 9, 2) := by decide +kernel
theorem dX3_takeMember_34 : decode cX3_takeMember 34 = .ok (.invokestatic 46, 3) := by decide +kernel
theorem dX3_takeMember_37 : decode cX3_takeMember 37 = .ok (.ifCond .ne 16, 3) := by decide +kernel
theorem dX3_takeMember_40 : decode cX3_takeMember 40 = .ok (.aload_n 0, 1) := by decide +kernel
theorem dX3_takeMember_41 : decode cX3_takeMember 41 = .ok (.getfield 27, 3) := by decide +kernel
theorem dX3_takeMember_44 : decode cX3_takeMember 44 = .ok (.iconst 0, 1) := by decide +kernel
theorem dX3_takeMember_45 : decode cX3_takeMember 45 = .ok (.bipush 6, 2) := by decide +kernel
theorem dX3_takeMember_47 : decode cX3_takeMember 47 = .ok (.invokestatic 46, 3) := by decide +kernel
theorem dX3_takeMember_50 : decode cX3_takeMember 50 = .ok (.ifCond .eq 5, 3) := by decide +kernel
theorem dX3_takeMember_53 : decode cX3_takeMember 53 = .ok (.iconst 0, 1) := by decide +kernel
theorem dX3_takeMember_54 : decode cX3_takeMember 54 = .ok (.ireturn, 1) := by decide +kernel
theorem dX3_takeMember_55 : decode cX3_takeMember 55 = .ok (.aload_n 0, 1) := by decide +kernel
theorem dX3_takeMember_56 : decode cX3_takeMember 56 = .ok (.getfield 9, 3) := by decide +kernel
theorem dX3_takeMember_59 : decode cX3_takeMember 59 = .ok (.aload_n 0, 1) := by decide +kernel
theorem dX3_takeMember_60 : decode cX3_takeMember 60 = .ok (.getfield 27, 3) := by decide +kernel
theorem dX3_takeMember_63 : decode cX3_takeMember 63 = .ok (.iload_n 1, 1) := by decide +kernel
theorem dX3_takeMember_64 : decode cX3_takeMember 64 = .ok (.iastore, 1) := by decide +kernel
theorem dX3_takeMember_65 : decode cX3_takeMember 65 = .ok (.aload_n 0, 1) := by decide +kernel
theorem dX3_takeMember_66 : decode cX3_takeMember 66 = .ok (.getfield 15, 3) := by decide +kernel
theorem dX3_takeMember_69 : decode cX3_takeMember 69 = .ok (.aload_n 0, 1) := by decide +kernel
theorem dX3_takeMember_70 : decode cX3_takeMember 70 = .ok (.getfield 27, 3) := by decide +kernel
theorem dX3_takeMember_73 : decode cX3_takeMember 73 = .ok (.iload_n 2, 1) := by decide +kernel
theorem dX3_takeMember_74 : decode cX3_takeMember 74 = .ok (.iastore, 1) := by decide +kernel
theorem dX3_takeMember_75 : decode cX3_takeMember 75 = .ok (.aload_n 0, 1) := by decide +kernel
theorem dX3_takeMember_76 : decode cX3_takeMember 76 = .ok (.getfield 18, 3) := by decide +kernel
theorem dX3_takeMember_79 : decode cX3_takeMember 79 = .ok (.aload_n 0, 1) := by decide +kernel
theorem dX3_takeMember_80 : decode cX3_takeMember 80 = .ok (.getfield 27, 3) := by decide +kernel
theorem dX3_takeMember_83 : decode cX3_takeMember 83 = .ok (.iload_n 3, 1) := by decide +kernel
theorem dX3_takeMember_84 : decode cX3_takeMember 84 = .ok (.iastore, 1) := by decide +kernel
theorem dX3_takeMember_85 : decode cX3_takeMember 85 = .ok (.aload_n 0, 1) := by decide +kernel
theorem dX3_takeMember_86 : decode cX3_takeMember 86 = .ok (.getfield 21, 3) := by decide +kernel
theorem dX3_takeMember_89 : decode cX3_takeMember 89 = .ok (.aload_n 0, 1) := by decide +kernel
theorem dX3_takeMember_90 : decode cX3_takeMember 90 = .ok (.getfield 27, 3) := by decide +kernel
theorem dX3_takeMember_93 : decode cX3_takeMember 93 = .ok (.iload 4, 2) := by decide +kernel
theorem dX3_takeMember_95 : decode cX3_takeMember 95 = .ok (.iastore, 1) := by decide +kernel
theorem dX3_takeMember_96 : decode cX3_takeMember 96 = .ok (.aload_n 0, 1) := by decide +kernel
theorem dX3_takeMember_97 : decode cX3_takeMember 97 = .ok (.getfield 24, 3) := by decide +kernel
theorem dX3_takeMember_100 : decode cX3_takeMember 100 = .ok (.aload_n 0, 1) := by decide +kernel
theorem dX3_takeMember_101 : decode cX3_takeMember 101 = .ok (.getfield 27, 3) := by decide +kernel
theorem dX3_takeMember_104 : decode cX3_takeMember 104 = .ok (.iconst 0, 1) := by decide +kernel
theorem dX3_takeMember_105 : decode cX3_takeMember 105 = .ok (.iastore, 1) := by decide +kernel
theorem dX3_takeMember_106 : decode cX3_takeMember 106 = .ok (.aload_n 0, 1) := by decide +kernel
theorem dX3_takeMember_107 : decode cX3_takeMember 107 = .ok (.dup, 1) := by decide +kernel
theorem dX3_takeMember_108 : decode cX3_takeMember 108 = .ok (.getfield 27, 3) := by decide +kernel
theorem dX3_takeMember_111 : decode cX3_takeMember 111 = .ok (.iconst 1, 1) := by decide +kernel
theorem dX3_takeMember_112 : decode cX3_takeMember 112 = .ok (.iadd, 1) := by decide +kernel
theorem dX3_takeMember_113 : decode cX3_takeMember 113 = .ok (.putfield 27, 3) := by decide +kernel
theorem dX3_takeMember_116 : decode cX3_takeMember 116 = .ok (.iconst 1, 1) := by decide +kernel
theorem dX3_takeMember_117 : decode cX3_takeMember 117 = .ok (.ireturn, 1) := by decide +kernel
theorem dX3_takePot_0 : decode cX3_takePot 0 = .ok (.iload_n 1, 1) := by decide +kernel
theorem dX3_takePot_1 : decode cX3_takePot 1 = .ok (.iconst 0, 1) := by decide +kernel
theorem dX3_takePot_2 : decode cX3_takePot 2 = .ok (.bipush 99, 2) := by decide +kernel
theorem dX3_takePot_4 : decode cX3_takePot 4 = .ok (.invokestatic 46, 3) := by decide +kernel
theorem dX3_takePot_7 : decode cX3_takePot 7 = .ok (.ifCond .ne 23, 3) := by decide +kernel
theorem dX3_takePot_10 : decode cX3_takePot 10 = .ok (.iload_n 2, 1) := by decide +kernel
theorem dX3_takePot_11 : decode cX3_takePot 11 = .ok (.iconst 0, 1) := by decide +kernel
theorem dX3_takePot_12 : decode cX3_takePot 12 = .ok (.bipush 9, 2) := by decide +kernel
theorem dX3_takePot_14 : decode cX3_takePot 14 = .ok (.invokestatic 46, 3) := by decide +kernel
theorem dX3_takePot_17 : decode cX3_takePot 17 = .ok (.ifCond .ne 13, 3) := by decide +kernel
theorem dX3_takePot_20 : decode cX3_takePot 20 = .ok (.iload_n 3, 1) := by decide +kernel
theorem dX3_takePot_21 : decode cX3_takePot 21 = .ok (.iconst 0, 1) := by decide +kernel
theorem dX3_takePot_22 : decode cX3_takePot 22 = .ok (.bipush 9, 2) := by decide +kernel
theorem dX3_takePot_24 : decode cX3_takePot 24 = .ok (.invokestatic 46, 3) := by decide +kernel
theorem dX3_takePot_27 : decode cX3_takePot 27 = .ok (.ifCond .eq 5, 3) := by decide +kernel
theorem dX3_takePot_30 : decode cX3_takePot 30 = .ok (.iconst 0, 1) := by decide +kernel
theorem dX3_takePot_31 : decode cX3_takePot 31 = .ok (.ireturn, 1) := by decide +kernel
theorem dX3_takePot_32 : decode cX3_takePot 32 = .ok (.aload_n 0, 1) := by decide +kernel
theorem dX3_takePot_33 : decode cX3_takePot 33 = .ok (.iload_n 1, 1) := by decide +kernel
theorem dX3_takePot_34 : decode cX3_takePot 34 = .ok (.putfield 31, 3) := by decide +kernel
theorem dX3_takePot_37 : decode cX3_takePot 37 = .ok (.aload_n 0, 1) := by decide +kernel
theorem dX3_takePot_38 : decode cX3_takePot 38 = .ok (.iload_n 2, 1) := by decide +kernel
theorem dX3_takePot_39 : decode cX3_takePot 39 = .ok (.putfield 34, 3) := by decide +kernel
theorem dX3_takePot_42 : decode cX3_takePot 42 = .ok (.aload_n 0, 1) := by decide +kernel
theorem dX3_takePot_43 : decode cX3_takePot 43 = .ok (.iload_n 3, 1) := by decide +kernel
theorem dX3_takePot_44 : decode cX3_takePot 44 = .ok (.putfield 37, 3) := by decide +kernel
theorem dX3_takePot_47 : decode cX3_takePot 47 = .ok (.iconst 1, 1) := by decide +kernel
theorem dX3_takePot_48 : decode cX3_takePot 48 = .ok (.ireturn, 1) := by decide +kernel
theorem dX3_takeRounds_0 : decode cX3_takeRounds 0 = .ok (.iload_n 1, 1) := by decide +kernel
theorem dX3_takeRounds_1 : decode cX3_takeRounds 1 = .ok (.iconst 1, 1) := by decide +kernel
theorem dX3_takeRounds_2 : decode cX3_takeRounds 2 = .ok (.bipush 20, 2) := by decide +kernel
theorem dX3_takeRounds_4 : decode cX3_takeRounds 4 = .ok (.invokestatic 46, 3) := by decide +kernel
theorem dX3_takeRounds_7 : decode cX3_takeRounds 7 = .ok (.ifCond .eq 5, 3) := by decide +kernel
theorem dX3_takeRounds_10 : decode cX3_takeRounds 10 = .ok (.iconst 0, 1) := by decide +kernel
theorem dX3_takeRounds_11 : decode cX3_takeRounds 11 = .ok (.ireturn, 1) := by decide +kernel
theorem dX3_takeRounds_12 : decode cX3_takeRounds 12 = .ok (.aload_n 0, 1) := by decide +kernel
theorem dX3_takeRounds_13 : decode cX3_takeRounds 13 = .ok (.iload_n 1, 1) := by decide +kernel
theorem dX3_takeRounds_14 : decode cX3_takeRounds 14 = .ok (.putfield 40, 3) := by decide +kernel
theorem dX3_takeRounds_17 : decode cX3_takeRounds 17 = .ok (.iconst 1, 1) := by decide +kernel
theorem dX3_takeRounds_18 : decode cX3_takeRounds 18 = .ok (.ireturn, 1) := by decide +kernel
theorem dX3_takeFastHunger_0 : decode cX3_takeFastHunger 0 = .ok (.iload_n 1, 1) := by decide +kernel
theorem dX3_takeFastHunger_1 : decode cX3_takeFastHunger 1 = .ok (.iconst 1, 1) := by decide +kernel
theorem dX3_takeFastHunger_2 : decode cX3_takeFastHunger 2 = .ok (.bipush 20, 2) := by decide +kernel
theorem dX3_takeFastHunger_4 : decode cX3_takeFastHunger 4 = .ok (.invokestatic 46, 3) := by decide +kernel
theorem dX3_takeFastHunger_7 : decode cX3_takeFastHunger 7 = .ok (.ifCond .eq 5, 3) := by decide +kernel
theorem dX3_takeFastHunger_10 : decode cX3_takeFastHunger 10 = .ok (.iconst 0, 1) := by decide +kernel
theorem dX3_takeFastHunger_11 : decode cX3_takeFastHunger 11 = .ok (.ireturn, 1) := by decide +kernel
theorem dX3_takeFastHunger_12 : decode cX3_takeFastHunger 12 = .ok (.aload_n 0, 1) := by decide +kernel
theorem dX3_takeFastHunger_13 : decode cX3_takeFastHunger 13 = .ok (.iload_n 1, 1) := by decide +kernel
theorem dX3_takeFastHunger_14 : decode cX3_takeFastHunger 14 = .ok (.putfield 43, 3) := by decide +kernel
theorem dX3_takeFastHunger_17 : decode cX3_takeFastHunger 17 = .ok (.iconst 1, 1) := by decide +kernel
theorem dX3_takeFastHunger_18 : decode cX3_takeFastHunger 18 = .ok (.ireturn, 1) := by decide +kernel
theorem dX3_takeOver_0 : decode cX3_takeOver 0 = .ok (.aload_n 1, 1) := by decide +kernel
theorem dX3_takeOver_1 : decode cX3_takeOver 1 = .ok (.getfield 9, 3) := by decide +kernel
theorem dX3_takeOver_4 : decode cX3_takeOver 4 = .ok (.iconst 0, 1) := by decide +kernel
theorem dX3_takeOver_5 : decode cX3_takeOver 5 = .ok (.aload_n 0, 1) := by decide +kernel
theorem dX3_takeOver_6 : decode cX3_takeOver 6 = .ok (.getfield 9, 3) := by decide +kernel
theorem dX3_takeOver_9 : decode cX3_takeOver 9 = .ok (.iconst 0, 1) := by decide +kernel
theorem dX3_takeOver_10 : decode cX3_takeOver 10 = .ok (.bipush 7, 2) := by decide +kernel
theorem dX3_takeOver_12 : decode cX3_takeOver 12 = .ok (.invokestatic 50, 3) := by decide +kernel
theorem dX3_takeOver_15 : decode cX3_takeOver 15 = .ok (.aload_n 1, 1) := by decide +kernel
theorem dX3_takeOver_16 : decode cX3_takeOver 16 = .ok (.getfield 15, 3) := by decide +kernel
theorem dX3_takeOver_19 : decode cX3_takeOver 19 = .ok (.iconst 0, 1) := by decide +kernel
theorem dX3_takeOver_20 : decode cX3_takeOver 20 = .ok (.aload_n 0, 1) := by decide +kernel
theorem dX3_takeOver_21 : decode cX3_takeOver 21 = .ok (.getfield 15, 3) := by decide +kernel
theorem dX3_takeOver_24 : decode cX3_takeOver 24 = .ok (.iconst 0, 1) := by decide +kernel
theorem dX3_takeOver_25 : decode cX3_takeOver 25 = .ok (.bipush 7, 2) := by decide +kernel
theorem dX3_takeOver_27 : decode cX3_takeOver 27 = .ok (.invokestatic 50, 3) := by decide +kernel
theorem dX3_takeOver_30 : decode cX3_takeOver 30 = .ok (.aload_n 1, 1) := by decide +kernel
theorem dX3_takeOver_31 : decode cX3_takeOver 31 = .ok (.getfield 18, 3) := by decide +kernel
theorem dX3_takeOver_34 : decode cX3_takeOver 34 = .ok (.iconst 0, 1) := by decide +kernel
theorem dX3_takeOver_35 : decode cX3_takeOver 35 = .ok (.aload_n 0, 1) := by decide +kernel
theorem dX3_takeOver_36 : decode cX3_takeOver 36 = .ok (.getfield 18, 3) := by decide +kernel
theorem dX3_takeOver_39 : decode cX3_takeOver 39 = .ok (.iconst 0, 1) := by decide +kernel
theorem dX3_takeOver_40 : decode cX3_takeOver 40 = .ok (.bipush 7, 2) := by decide +kernel
theorem dX3_takeOver_42 : decode cX3_takeOver 42 = .ok (.invokestatic 50, 3) := by decide +kernel
theorem dX3_takeOver_45 : decode cX3_takeOver 45 = .ok (.aload_n 1, 1) := by decide +kernel
theorem dX3_takeOver_46 : decode cX3_takeOver 46 = .ok (.getfield 21, 3) := by decide +kernel
theorem dX3_takeOver_49 : decode cX3_takeOver 49 = .ok (.iconst 0, 1) := by decide +kernel
theorem dX3_takeOver_50 : decode cX3_takeOver 50 = .ok (.aload_n 0, 1) := by decide +kernel
theorem dX3_takeOver_51 : decode cX3_takeOver 51 = .ok (.getfield 21, 3) := by decide +kernel
theorem dX3_takeOver_54 : decode cX3_takeOver 54 = .ok (.iconst 0, 1) := by decide +kernel
theorem dX3_takeOver_55 : decode cX3_takeOver 55 = .ok (.bipush 7, 2) := by decide +kernel
theorem dX3_takeOver_57 : decode cX3_takeOver 57 = .ok (.invokestatic 50, 3) := by decide +kernel
theorem dX3_takeOver_60 : decode cX3_takeOver 60 = .ok (.aload_n 1, 1) := by decide +kernel
theorem dX3_takeOver_61 : decode cX3_takeOver 61 = .ok (.getfield 24, 3) := by decide +kernel
theorem dX3_takeOver_64 : decode cX3_takeOver 64 = .ok (.iconst 0, 1) := by decide +kernel
theorem dX3_takeOver_65 : decode cX3_takeOver 65 = .ok (.aload_n 0, 1) := by decide +kernel
theorem dX3_takeOver_66 : decode cX3_takeOver 66 = .ok (.getfield 24, 3) := by decide +kernel
theorem dX3_takeOver_69 : decode cX3_takeOver 69 = .ok (.iconst 0, 1) := by decide +kernel
theorem dX3_takeOver_70 : decode cX3_takeOver 70 = .ok (.bipush 7, 2) := by decide +kernel
theorem dX3_takeOver_72 : decode cX3_takeOver 72 = .ok (.invokestatic 50, 3) := by decide +kernel
theorem dX3_takeOver_75 : decode cX3_takeOver 75 = .ok (.aload_n 0, 1) := by decide +kernel
theorem dX3_takeOver_76 : decode cX3_takeOver 76 = .ok (.aload_n 1, 1) := by decide +kernel
theorem dX3_takeOver_77 : decode cX3_takeOver 77 = .ok (.getfield 27, 3) := by decide +kernel
theorem dX3_takeOver_80 : decode cX3_takeOver 80 = .ok (.putfield 27, 3) := by decide +kernel
theorem dX3_takeOver_83 : decode cX3_takeOver 83 = .ok (.aload_n 0, 1) := by decide +kernel
theorem dX3_takeOver_84 : decode cX3_takeOver 84 = .ok (.aload_n 1, 1) := by decide +kernel
theorem dX3_takeOver_85 : decode cX3_takeOver 85 = .ok (.getfield 31, 3) := by decide +kernel
theorem dX3_takeOver_88 : decode cX3_takeOver 88 = .ok (.putfield 31, 3) := by decide +kernel
theorem dX3_takeOver_91 : decode cX3_takeOver 91 = .ok (.aload_n 0, 1) := by decide +kernel
theorem dX3_takeOver_92 : decode cX3_takeOver 92 = .ok (.aload_n 1, 1) := by decide +kernel
theorem dX3_takeOver_93 : decode cX3_takeOver 93 = .ok (.getfield 34, 3) := by decide +kernel
theorem dX3_takeOver_96 : decode cX3_takeOver 96 = .ok (.putfield 34, 3) := by decide +kernel
theorem dX3_takeOver_99 : decode cX3_takeOver 99 = .ok (.aload_n 0, 1) := by decide +kernel
theorem dX3_takeOver_100 : decode cX3_takeOver 100 = .ok (.aload_n 1, 1) := by decide +kernel
theorem dX3_takeOver_101 : decode cX3_takeOver 101 = .ok (.getfield 37, 3) := by decide +kernel
theorem dX3_takeOver_104 : decode cX3_takeOver 104 = .ok (.putfield 37, 3) := by decide +kernel
theorem dX3_takeOver_107 : decode cX3_takeOver 107 = .ok (.aload_n 0, 1) := by decide +kernel
theorem dX3_takeOver_108 : decode cX3_takeOver 108 = .ok (.aload_n 1, 1) := by decide +kernel
theorem dX3_takeOver_109 : decode cX3_takeOver 109 = .ok (.getfield 40, 3) := by decide +kernel
theorem dX3_takeOver_112 : decode cX3_takeOver 112 = .ok (.putfield 40, 3) := by decide +kernel
theorem dX3_takeOver_115 : decode cX3_takeOver 115 = .ok (.aload_n 0, 1) := by decide +kernel
theorem dX3_takeOver_116 : decode cX3_takeOver 116 = .ok (.aload_n 1, 1) := by decide +kernel
theorem dX3_takeOver_117 : decode cX3_takeOver 117 = .ok (.getfield 43, 3) := by decide +kernel
theorem dX3_takeOver_120 : decode cX3_takeOver 120 = .ok (.putfield 43, 3) := by decide +kernel
theorem dX3_takeOver_123 : decode cX3_takeOver 123 = .ok (.return_, 1) := by decide +kernel
theorem dX3_share_0 : decode cX3_share 0 = .ok (.aload_n 0, 1) := by decide +kernel
theorem dX3_share_1 : decode cX3_share 1 = .ok (.iload_n 1, 1) := by decide +kernel
theorem dX3_share_2 : decode cX3_share 2 = .ok (.aload_n 0, 1) := by decide +kernel
theorem dX3_share_3 : decode cX3_share 3 = .ok (.getfield 34, 3) := by decide +kernel
theorem dX3_share_6 : decode cX3_share 6 = .ok (.invokevirtual 56, 3) := by decide +kernel
theorem dX3_share_9 : decode cX3_share 9 = .ok (.aload_n 0, 1) := by decide +kernel
theorem dX3_share_10 : decode cX3_share 10 = .ok (.getfield 18, 3) := by decide +kernel
theorem dX3_share_13 : decode cX3_share 13 = .ok (.iload_n 1, 1) := by decide +kernel
theorem dX3_share_14 : decode cX3_share 14 = .ok (.iaload, 1) := by decide +kernel
theorem dX3_share_15 : decode cX3_share 15 = .ok (.invokestatic 60, 3) := by decide +kernel
theorem dX3_share_18 : decode cX3_share 18 = .ok (.aload_n 0, 1) := by decide +kernel
theorem dX3_share_19 : decode cX3_share 19 = .ok (.getfield 31, 3) := by decide +kernel
theorem dX3_share_22 : decode cX3_share 22 = .ok (.invokestatic 60, 3) := by decide +kernel
theorem dX3_share_25 : decode cX3_share 25 = .ok (.ireturn, 1) := by decide +kernel
theorem dX3_spoonful_0 : decode cX3_spoonful 0 = .ok (.aload_n 0, 1) := by decide +kernel
theorem dX3_spoonful_1 : decode cX3_spoonful 1 = .ok (.getfield 37, 3) := by decide +kernel
theorem dX3_spoonful_4 : decode cX3_spoonful 4 = .ok (.aload_n 0, 1) := by decide +kernel
theorem dX3_spoonful_5 : decode cX3_spoonful 5 = .ok (.getfield 21, 3) := by decide +kernel
theorem dX3_spoonful_8 : decode cX3_spoonful 8 = .ok (.iload_n 1, 1) := by decide +kernel
theorem dX3_spoonful_9 : decode cX3_spoonful 9 = .ok (.iaload, 1) := by decide +kernel
theorem dX3_spoonful_10 : decode cX3_spoonful 10 = .ok (.if_icmp .gt 16, 3) := by decide +kernel
theorem dX3_spoonful_13 : decode cX3_spoonful 13 = .ok (.iload_n 2, 1) := by decide +kernel
theorem dX3_spoonful_14 : decode cX3_spoonful 14 = .ok (.aload_n 0, 1) := by decide +kernel
theorem dX3_spoonful_15 : decode cX3_spoonful 15 = .ok (.getfield 9, 3) := by decide +kernel
theorem dX3_spoonful_18 : decode cX3_spoonful 18 = .ok (.iload_n 1, 1) := by decide +kernel
theorem dX3_spoonful_19 : decode cX3_spoonful 19 = .ok (.iaload, 1) := by decide +kernel
theorem dX3_spoonful_20 : decode cX3_spoonful 20 = .ok (.invokestatic 65, 3) := by decide +kernel
theorem dX3_spoonful_23 : decode cX3_spoonful 23 = .ok (.if_icmp .le 5, 3) := by decide +kernel
theorem dX3_spoonful_26 : decode cX3_spoonful 26 = .ok (.iconst 0, 1) := by decide +kernel
theorem dX3_spoonful_27 : decode cX3_spoonful 27 = .ok (.ireturn, 1) := by decide +kernel
theorem dX3_spoonful_28 : decode cX3_spoonful 28 = .ok (.aload_n 0, 1) := by decide +kernel
theorem dX3_spoonful_29 : decode cX3_spoonful 29 = .ok (.getfield 9, 3) := by decide +kernel
theorem dX3_spoonful_32 : decode cX3_spoonful 32 = .ok (.iload_n 1, 1) := by decide +kernel
theorem dX3_spoonful_33 : decode cX3_spoonful 33 = .ok (.iaload, 1) := by decide +kernel
theorem dX3_spoonful_34 : decode cX3_spoonful 34 = .ok (.lookupswitch 37 #[(2, 26), (3, 35)], 26) := by decide +kernel
theorem dX3_spoonful_60 : decode cX3_spoonful 60 = .ok (.iconst 2, 1) := by decide +kernel
theorem dX3_spoonful_61 : decode cX3_spoonful 61 = .ok (.aload_n 0, 1) := by decide +kernel
theorem dX3_spoonful_62 : decode cX3_spoonful 62 = .ok (.getfield 15, 3) := by decide +kernel
theorem dX3_spoonful_65 : decode cX3_spoonful 65 = .ok (.iload_n 1, 1) := by decide +kernel
theorem dX3_spoonful_66 : decode cX3_spoonful 66 = .ok (.iaload, 1) := by decide +kernel
theorem dX3_spoonful_67 : decode cX3_spoonful 67 = .ok (.imul, 1) := by decide +kernel
theorem dX3_spoonful_68 : decode cX3_spoonful 68 = .ok (.ireturn, 1) := by decide +kernel
theorem dX3_spoonful_69 : decode cX3_spoonful 69 = .ok (.iconst 1, 1) := by decide +kernel
theorem dX3_spoonful_70 : decode cX3_spoonful 70 = .ok (.ireturn, 1) := by decide +kernel
theorem dX3_spoonful_71 : decode cX3_spoonful 71 = .ok (.aload_n 0, 1) := by decide +kernel
theorem dX3_spoonful_72 : decode cX3_spoonful 72 = .ok (.getfield 15, 3) := by decide +kernel
theorem dX3_spoonful_75 : decode cX3_spoonful 75 = .ok (.iload_n 1, 1) := by decide +kernel
theorem dX3_spoonful_76 : decode cX3_spoonful 76 = .ok (.iaload, 1) := by decide +kernel
theorem dX3_spoonful_77 : decode cX3_spoonful 77 = .ok (.ireturn, 1) := by decide +kernel
theorem dX3_hottestFor_0 : decode cX3_hottestFor 0 = .ok (.iload_n 0, 1) := by decide +kernel
theorem dX3_hottestFor_1 : decode cX3_hottestFor 1 = .ok (.tableswitch 35 1 3 #[27, 29, 32], 27) := by decide +kernel
theorem dX3_hottestFor_28 : decode cX3_hottestFor 28 = .ok (.iconst 4, 1) := by decide +kernel
theorem dX3_hottestFor_29 : decode cX3_hottestFor 29 = .ok (.ireturn, 1) := by decide +kernel
theorem dX3_hottestFor_30 : decode cX3_hottestFor 30 = .ok (.bipush 7, 2) := by decide +kernel
theorem dX3_hottestFor_32 : decode cX3_hottestFor 32 = .ok (.ireturn, 1) := by decide +kernel
theorem dX3_hottestFor_33 : decode cX3_hottestFor 33 = .ok (.bipush 8, 2) := by decide +kernel
theorem dX3_hottestFor_35 : decode cX3_hottestFor 35 = .ok (.ireturn, 1) := by decide +kernel
theorem dX3_hottestFor_36 : decode cX3_hottestFor 36 = .ok (.bipush 9, 2) := by decide +kernel
theorem dX3_hottestFor_38 : decode cX3_hottestFor 38 = .ok (.ireturn, 1) := by decide +kernel
theorem dX3_eatRound_0 : decode cX3_eatRound 0 = .ok (.bipush (-4), 2) := by decide +kernel
theorem dX3_eatRound_2 : decode cX3_eatRound 2 = .ok (.istore_n 1, 1) := by decide +kernel
theorem dX3_eatRound_3 : decode cX3_eatRound 3 = .ok (.iconst 0, 1) := by decide +kernel
theorem dX3_eatRound_4 : decode cX3_eatRound 4 = .ok (.istore_n 2, 1) := by decide +kernel
theorem dX3_eatRound_5 : decode cX3_eatRound 5 = .ok (.iload_n 2, 1) := by decide +kernel
theorem dX3_eatRound_6 : decode cX3_eatRound 6 = .ok (.aload_n 0, 1) := by decide +kernel
theorem dX3_eatRound_7 : decode cX3_eatRound 7 = .ok (.getfield 27, 3) := by decide +kernel
theorem dX3_eatRound_10 : decode cX3_eatRound 10 = .ok (.if_icmp .ge 59, 3) := by decide +kernel
theorem dX3_eatRound_13 : decode cX3_eatRound 13 = .ok (.aload_n 0, 1) := by decide +kernel
theorem dX3_eatRound_14 : decode cX3_eatRound 14 = .ok (.iload_n 2, 1) := by decide +kernel
theorem dX3_eatRound_15 : decode cX3_eatRound 15 = .ok (.invokevirtual 69, 3) := by decide +kernel
theorem dX3_eatRound_18 : decode cX3_eatRound 18 = .ok (.istore_n 3, 1) := by decide +kernel
theorem dX3_eatRound_19 : decode cX3_eatRound 19 = .ok (.iload_n 3, 1) := by decide +kernel
theorem dX3_eatRound_20 : decode cX3_eatRound 20 = .ok (.ifCond .le 13, 3) := by decide +kernel
theorem dX3_eatRound_23 : decode cX3_eatRound 23 = .ok (.iload_n 3, 1) := by decide +kernel
theorem dX3_eatRound_24 : decode cX3_eatRound 24 = .ok (.aload_n 0, 1) := by decide +kernel
theorem dX3_eatRound_25 : decode cX3_eatRound 25 = .ok (.getfield 31, 3) := by decide +kernel
theorem dX3_eatRound_28 : decode cX3_eatRound 28 = .ok (.if_icmp .ne 5, 3) := by decide +kernel
theorem dX3_eatRound_31 : decode cX3_eatRound 31 = .ok (.iload_n 2, 1) := by decide +kernel
theorem dX3_eatRound_32 : decode cX3_eatRound 32 = .ok (.istore_n 1, 1) := by decide +kernel
theorem dX3_eatRound_33 : decode cX3_eatRound 33 = .ok (.aload_n 0, 1) := by decide +kernel
theorem dX3_eatRound_34 : decode cX3_eatRound 34 = .ok (.dup, 1) := by decide +kernel
theorem dX3_eatRound_35 : decode cX3_eatRound 35 = .ok (.getfield 31, 3) := by decide +kernel
theorem dX3_eatRound_38 : decode cX3_eatRound 38 = .ok (.iload_n 3, 1) := by decide +kernel
theorem dX3_eatRound_39 : decode cX3_eatRound 39 = .ok (.isub, 1) := by decide +kernel
theorem dX3_eatRound_40 : decode cX3_eatRound 40 = .ok (.putfield 31, 3) := by decide +kernel
theorem dX3_eatRound_43 : decode cX3_eatRound 43 = .ok (.aload_n 0, 1) := by decide +kernel
theorem dX3_eatRound_44 : decode cX3_eatRound 44 = .ok (.getfield 18, 3) := by decide +kernel
theorem dX3_eatRound_47 : decode cX3_eatRound 47 = .ok (.iload_n 2, 1) := by decide +kernel
theorem dX3_eatRound_48 : decode cX3_eatRound 48 = .ok (.dup2, 1) := by decide +kernel
theorem dX3_eatRound_49 : decode cX3_eatRound 49 = .ok (.iaload, 1) := by decide +kernel
theorem dX3_eatRound_50 : decode cX3_eatRound 50 = .ok (.iload_n 3, 1) := by decide +kernel
theorem dX3_eatRound_51 : decode cX3_eatRound 51 = .ok (.isub, 1) := by decide +kernel
theorem dX3_eatRound_52 : decode cX3_eatRound 52 = .ok (.iastore, 1) := by decide +kernel
theorem dX3_eatRound_53 : decode cX3_eatRound 53 = .ok (.aload_n 0, 1) := by decide +kernel
theorem dX3_eatRound_54 : decode cX3_eatRound 54 = .ok (.getfield 24, 3) := by decide +kernel
theorem dX3_eatRound_57 : decode cX3_eatRound 57 = .ok (.iload_n 2, 1) := by decide +kernel
theorem dX3_eatRound_58 : decode cX3_eatRound 58 = .ok (.dup2, 1) := by decide +kernel
theorem dX3_eatRound_59 : decode cX3_eatRound 59 = .ok (.iaload, 1) := by decide +kernel
theorem dX3_eatRound_60 : decode cX3_eatRound 60 = .ok (.iload_n 3, 1) := by decide +kernel
theorem dX3_eatRound_61 : decode cX3_eatRound 61 = .ok (.iadd, 1) := by decide +kernel
theorem dX3_eatRound_62 : decode cX3_eatRound 62 = .ok (.iastore, 1) := by decide +kernel
theorem dX3_eatRound_63 : decode cX3_eatRound 63 = .ok (.iinc 2 1, 3) := by decide +kernel
theorem dX3_eatRound_66 : decode cX3_eatRound 66 = .ok (.goto (-61), 3) := by decide +kernel
theorem dX3_eatRound_69 : decode cX3_eatRound 69 = .ok (.aload_n 0, 1) := by decide +kernel
theorem dX3_eatRound_70 : decode cX3_eatRound 70 = .ok (.invokevirtual 72, 3) := by decide +kernel
theorem dX3_eatRound_73 : decode cX3_eatRound 73 = .ok (.iload_n 1, 1) := by decide +kernel
theorem dX3_eatRound_74 : decode cX3_eatRound 74 = .ok (.ireturn, 1) := by decide +kernel
theorem dX3_eatRounds_0 : decode cX3_eatRounds 0 = .ok (.bipush (-4), 2) := by decide +kernel
theorem dX3_eatRounds_2 : decode cX3_eatRounds 2 = .ok (.istore_n 2, 1) := by decide +kernel
theorem dX3_eatRounds_3 : decode cX3_eatRounds 3 = .ok (.iconst 0, 1) := by decide +kernel
theorem dX3_eatRounds_4 : decode cX3_eatRounds 4 = .ok (.istore_n 3, 1) := by decide +kernel
theorem dX3_eatRounds_5 : decode cX3_eatRounds 5 = .ok (.iload_n 3, 1) := by decide +kernel
theorem dX3_eatRounds_6 : decode cX3_eatRounds 6 = .ok (.iload_n 1, 1) := by decide +kernel
theorem dX3_eatRounds_7 : decode cX3_eatRounds 7 = .ok (.if_icmp .ge 25, 3) := by decide +kernel
theorem dX3_eatRounds_10 : decode cX3_eatRounds 10 = .ok (.aload_n 0, 1) := by decide +kernel
theorem dX3_eatRounds_11 : decode cX3_eatRounds 11 = .ok (.invokevirtual 75, 3) := by decide +kernel
theorem dX3_eatRounds_14 : decode cX3_eatRounds 14 = .ok (.istore 4, 2) := by decide +kernel
theorem dX3_eatRounds_16 : decode cX3_eatRounds 16 = .ok (.iload 4, 2) := by decide +kernel
theorem dX3_eatRounds_18 : decode cX3_eatRounds 18 = .ok (.bipush (-4), 2) := by decide +kernel
theorem dX3_eatRounds_20 : decode cX3_eatRounds 20 = .ok (.if_icmp .eq 6, 3) := by decide +kernel
theorem dX3_eatRounds_23 : decode cX3_eatRounds 23 = .ok (.iload 4, 2) := by decide +kernel
theorem dX3_eatRounds_25 : decode cX3_eatRounds 25 = .ok (.istore_n 2, 1) := by decide +kernel
theorem dX3_eatRounds_26 : decode cX3_eatRounds 26 = .ok (.iinc 3 1, 3) := by decide +kernel
theorem dX3_eatRounds_29 : decode cX3_eatRounds 29 = .ok (.goto (-24), 3) := by decide +kernel
theorem dX3_eatRounds_32 : decode cX3_eatRounds 32 = .ok (.iload_n 2, 1) := by decide +kernel
theorem dX3_eatRounds_33 : decode cX3_eatRounds 33 = .ok (.ireturn, 1) := by decide +kernel
theorem dX3_roundsUntilEmpty_0 : decode cX3_roundsUntilEmpty 0 = .ok (.iconst 0, 1) := by decide +kernel
theorem dX3_roundsUntilEmpty_1 : decode cX3_roundsUntilEmpty 1 = .ok (.istore_n 1, 1) := by decide +kernel
theorem dX3_roundsUntilEmpty_2 : decode cX3_roundsUntilEmpty 2 = .ok (.iload_n 1, 1) := by decide +kernel
theorem dX3_roundsUntilEmpty_3 : decode cX3_roundsUntilEmpty 3 = .ok (.aload_n 0, 1) := by decide +kernel
theorem dX3_roundsUntilEmpty_4 : decode cX3_roundsUntilEmpty 4 = .ok (.getfield 40, 3) := by decide +kernel
theorem dX3_roundsUntilEmpty_7 : decode cX3_roundsUntilEmpty 7 = .ok (.if_icmp .gt 23, 3) := by decide +kernel
theorem dX3_roundsUntilEmpty_10 : decode cX3_roundsUntilEmpty 10 = .ok (.aload_n 0, 1) := by decide +kernel
theorem dX3_roundsUntilEmpty_11 : decode cX3_roundsUntilEmpty 11 = .ok (.getfield 31, 3) := by decide +kernel
theorem dX3_roundsUntilEmpty_14 : decode cX3_roundsUntilEmpty 14 = .ok (.ifCond .ne 5, 3) := by decide +kernel
theorem dX3_roundsUntilEmpty_17 : decode cX3_roundsUntilEmpty 17 = .ok (.iload_n 1, 1) := by decide +kernel
theorem dX3_roundsUntilEmpty_18 : decode cX3_roundsUntilEmpty 18 = .ok (.ireturn, 1) := by decide +kernel
theorem dX3_roundsUntilEmpty_19 : decode cX3_roundsUntilEmpty 19 = .ok (.aload_n 0, 1) := by decide +kernel
theorem dX3_roundsUntilEmpty_20 : decode cX3_roundsUntilEmpty 20 = .ok (.invokevirtual 75, 3) := by decide +kernel
theorem dX3_roundsUntilEmpty_23 : decode cX3_roundsUntilEmpty 23 = .ok (.pop, 1) := by decide +kernel
theorem dX3_roundsUntilEmpty_24 : decode cX3_roundsUntilEmpty 24 = .ok (.iinc 1 1, 3) := by decide +kernel
theorem dX3_roundsUntilEmpty_27 : decode cX3_roundsUntilEmpty 27 = .ok (.goto (-25), 3) := by decide +kernel
theorem dX3_roundsUntilEmpty_30 : decode cX3_roundsUntilEmpty 30 = .ok (.bipush (-4), 2) := by decide +kernel
theorem dX3_roundsUntilEmpty_32 : decode cX3_roundsUntilEmpty 32 = .ok (.ireturn, 1) := by decide +kernel
theorem dX3_reach_0 : decode cX3_reach 0 = .ok (.iconst 0, 1) := by decide +kernel
theorem dX3_reach_1 : decode cX3_reach 1 = .ok (.istore_n 2, 1) := by decide +kernel
theorem dX3_reach_2 : decode cX3_reach 2 = .ok (.iconst 0, 1) := by decide +kernel
theorem dX3_reach_3 : decode cX3_reach 3 = .ok (.istore_n 3, 1) := by decide +kernel
theorem dX3_reach_4 : decode cX3_reach 4 = .ok (.iload_n 3, 1) := by decide +kernel
theorem dX3_reach_5 : decode cX3_reach 5 = .ok (.aload_n 0, 1) := by decide +kernel
theorem dX3_reach_6 : decode cX3_reach 6 = .ok (.getfield 40, 3) := by decide +kernel
theorem dX3_reach_9 : decode cX3_reach 9 = .ok (.if_icmp .ge 34, 3) := by decide +kernel
theorem dX3_reach_12 : decode cX3_reach 12 = .ok (.iload_n 2, 1) := by decide +kernel
theorem dX3_reach_13 : decode cX3_reach 13 = .ok (.aload_n 0, 1) := by decide +kernel
theorem dX3_reach_14 : decode cX3_reach 14 = .ok (.iload_n 1, 1) := by decide +kernel
theorem dX3_reach_15 : decode cX3_reach 15 = .ok (.aload_n 0, 1) := by decide +kernel
theorem dX3_reach_16 : decode cX3_reach 16 = .ok (.getfield 34, 3) := by decide +kernel
theorem dX3_reach_19 : decode cX3_reach 19 = .ok (.iload_n 3, 1) := by decide +kernel
theorem dX3_reach_20 : decode cX3_reach 20 = .ok (.isub, 1) := by decide +kernel
theorem dX3_reach_21 : decode cX3_reach 21 = .ok (.invokevirtual 56, 3) := by decide +kernel
theorem dX3_reach_24 : decode cX3_reach 24 = .ok (.aload_n 0, 1) := by decide +kernel
theorem dX3_reach_25 : decode cX3_reach 25 = .ok (.getfield 18, 3) := by decide +kernel
theorem dX3_reach_28 : decode cX3_reach 28 = .ok (.iload_n 1, 1) := by decide +kernel
theorem dX3_reach_29 : decode cX3_reach 29 = .ok (.iaload, 1) := by decide +kernel
theorem dX3_reach_30 : decode cX3_reach 30 = .ok (.iload_n 2, 1) := by decide +kernel
theorem dX3_reach_31 : decode cX3_reach 31 = .ok (.isub, 1) := by decide +kernel
theorem dX3_reach_32 : decode cX3_reach 32 = .ok (.invokestatic 60, 3) := by decide +kernel
theorem dX3_reach_35 : decode cX3_reach 35 = .ok (.iadd, 1) := by decide +kernel
theorem dX3_reach_36 : decode cX3_reach 36 = .ok (.istore_n 2, 1) := by decide +kernel
theorem dX3_reach_37 : decode cX3_reach 37 = .ok (.iinc 3 1, 3) := by decide +kernel
theorem dX3_reach_40 : decode cX3_reach 40 = .ok (.goto (-36), 3) := by decide +kernel
theorem dX3_reach_43 : decode cX3_reach 43 = .ok (.iload_n 2, 1) := by decide +kernel
theorem dX3_reach_44 : decode cX3_reach 44 = .ok (.ireturn, 1) := by decide +kernel
theorem dX3_reachOfAll_0 : decode cX3_reachOfAll 0 = .ok (.iconst 0, 1) := by decide +kernel
theorem dX3_reachOfAll_1 : decode cX3_reachOfAll 1 = .ok (.istore_n 1, 1) := by decide +kernel
theorem dX3_reachOfAll_2 : decode cX3_reachOfAll 2 = .ok (.iconst 0, 1) := by decide +kernel
theorem dX3_reachOfAll_3 : decode cX3_reachOfAll 3 = .ok (.istore_n 2, 1) := by decide +kernel
theorem dX3_reachOfAll_4 : decode cX3_reachOfAll 4 = .ok (.iload_n 2, 1) := by decide +kernel
theorem dX3_reachOfAll_5 : decode cX3_reachOfAll 5 = .ok (.aload_n 0, 1) := by decide +kernel
theorem dX3_reachOfAll_6 : decode cX3_reachOfAll 6 = .ok (.getfield 27, 3) := by decide +kernel
theorem dX3_reachOfAll_9 : decode cX3_reachOfAll 9 = .ok (.if_icmp .ge 17, 3) := by decide +kernel
theorem dX3_reachOfAll_12 : decode cX3_reachOfAll 12 = .ok (.iload_n 1, 1) := by decide +kernel
theorem dX3_reachOfAll_13 : decode cX3_reachOfAll 13 = .ok (.aload_n 0, 1) := by decide +kernel
theorem dX3_reachOfAll_14 : decode cX3_reachOfAll 14 = .ok (.iload_n 2, 1) := by decide +kernel
theorem dX3_reachOfAll_15 : decode cX3_reachOfAll 15 = .ok (.invokevirtual 79, 3) := by decide +kernel
theorem dX3_reachOfAll_18 : decode cX3_reachOfAll 18 = .ok (.iadd, 1) := by decide +kernel
theorem dX3_reachOfAll_19 : decode cX3_reachOfAll 19 = .ok (.istore_n 1, 1) := by decide +kernel
theorem dX3_reachOfAll_20 : decode cX3_reachOfAll 20 = .ok (.iinc 2 1, 3) := by decide +kernel
theorem dX3_reachOfAll_23 : decode cX3_reachOfAll 23 = .ok (.goto (-19), 3) := by decide +kernel
theorem dX3_reachOfAll_26 : decode cX3_reachOfAll 26 = .ok (.iload_n 1, 1) := by decide +kernel
theorem dX3_reachOfAll_27 : decode cX3_reachOfAll 27 = .ok (.ireturn, 1) := by decide +kernel
theorem dX3_wouldPass_0 : decode cX3_wouldPass 0 = .ok (.aload_n 0, 1) := by decide +kernel
theorem dX3_wouldPass_1 : decode cX3_wouldPass 1 = .ok (.invokevirtual 82, 3) := by decide +kernel
theorem dX3_wouldPass_4 : decode cX3_wouldPass 4 = .ok (.aload_n 0, 1) := by decide +kernel
theorem dX3_wouldPass_5 : decode cX3_wouldPass 5 = .ok (.getfield 31, 3) := by decide +kernel
theorem dX3_wouldPass_8 : decode cX3_wouldPass 8 = .ok (.if_icmp .lt 7, 3) := by decide +kernel
theorem dX3_wouldPass_11 : decode cX3_wouldPass 11 = .ok (.iconst 1, 1) := by decide +kernel
theorem dX3_wouldPass_12 : decode cX3_wouldPass 12 = .ok (.goto 4, 3) := by decide +kernel
theorem dX3_wouldPass_15 : decode cX3_wouldPass 15 = .ok (.iconst 0, 1) := by decide +kernel
theorem dX3_wouldPass_16 : decode cX3_wouldPass 16 = .ok (.ireturn, 1) := by decide +kernel
theorem dX3_putSalt_0 : decode cX3_putSalt 0 = .ok (.aload_n 0, 1) := by decide +kernel
theorem dX3_putSalt_1 : decode cX3_putSalt 1 = .ok (.aload_n 0, 1) := by decide +kernel
theorem dX3_putSalt_2 : decode cX3_putSalt 2 = .ok (.getfield 37, 3) := by decide +kernel
theorem dX3_putSalt_5 : decode cX3_putSalt 5 = .ok (.iconst 1, 1) := by decide +kernel
theorem dX3_putSalt_6 : decode cX3_putSalt 6 = .ok (.iadd, 1) := by decide +kernel
theorem dX3_putSalt_7 : decode cX3_putSalt 7 = .ok (.bipush 9, 2) := by decide +kernel
theorem dX3_putSalt_9 : decode cX3_putSalt 9 = .ok (.invokestatic 60, 3) := by decide +kernel
theorem dX3_putSalt_12 : decode cX3_putSalt 12 = .ok (.putfield 37, 3) := by decide +kernel
theorem dX3_putSalt_15 : decode cX3_putSalt 15 = .ok (.return_, 1) := by decide +kernel
theorem dX3_cookTo_0 : decode cX3_cookTo 0 = .ok (.aload_n 0, 1) := by decide +kernel
theorem dX3_cookTo_1 : decode cX3_cookTo 1 = .ok (.iload_n 1, 1) := by decide +kernel
theorem dX3_cookTo_2 : decode cX3_cookTo 2 = .ok (.putfield 31, 3) := by decide +kernel
theorem dX3_cookTo_5 : decode cX3_cookTo 5 = .ok (.aload_n 0, 1) := by decide +kernel
theorem dX3_cookTo_6 : decode cX3_cookTo 6 = .ok (.bipush 9, 2) := by decide +kernel
theorem dX3_cookTo_8 : decode cX3_cookTo 8 = .ok (.putfield 34, 3) := by decide +kernel
theorem dX3_cookTo_11 : decode cX3_cookTo 11 = .ok (.return_, 1) := by decide +kernel
theorem dX3_waitOnce_0 : decode cX3_waitOnce 0 = .ok (.aload_n 0, 1) := by decide +kernel
theorem dX3_waitOnce_1 : decode cX3_waitOnce 1 = .ok (.aload_n 0, 1) := by decide +kernel
theorem dX3_waitOnce_2 : decode cX3_waitOnce 2 = .ok (.getfield 34, 3) := by decide +kernel
theorem dX3_waitOnce_5 : decode cX3_waitOnce 5 = .ok (.iconst 1, 1) := by decide +kernel
theorem dX3_waitOnce_6 : decode cX3_waitOnce 6 = .ok (.isub, 1) := by decide +kernel
theorem dX3_waitOnce_7 : decode cX3_waitOnce 7 = .ok (.iconst 0, 1) := by decide +kernel
theorem dX3_waitOnce_8 : decode cX3_waitOnce 8 = .ok (.invokestatic 85, 3) := by decide +kernel
theorem dX3_waitOnce_11 : decode cX3_waitOnce 11 = .ok (.putfield 34, 3) := by decide +kernel
theorem dX3_waitOnce_14 : decode cX3_waitOnce 14 = .ok (.return_, 1) := by decide +kernel
theorem dX3_exchangeSpoons_0 : decode cX3_exchangeSpoons 0 = .ok (.aload_n 0, 1) := by decide +kernel
theorem dX3_exchangeSpoons_1 : decode cX3_exchangeSpoons 1 = .ok (.getfield 9, 3) := by decide +kernel
theorem dX3_exchangeSpoons_4 : decode cX3_exchangeSpoons 4 = .ok (.iload_n 1, 1) := by decide +kernel
theorem dX3_exchangeSpoons_5 : decode cX3_exchangeSpoons 5 = .ok (.iaload, 1) := by decide +kernel
theorem dX3_exchangeSpoons_6 : decode cX3_exchangeSpoons 6 = .ok (.istore_n 3, 1) := by decide +kernel
theorem dX3_exchangeSpoons_7 : decode cX3_exchangeSpoons 7 = .ok (.aload_n 0, 1) := by decide +kernel
theorem dX3_exchangeSpoons_8 : decode cX3_exchangeSpoons 8 = .ok (.getfield 15, 3) := by decide +kernel
theorem dX3_exchangeSpoons_11 : decode cX3_exchangeSpoons 11 = .ok (.iload_n 1, 1) := by decide +kernel
theorem dX3_exchangeSpoons_12 : decode cX3_exchangeSpoons 12 = .ok (.iaload, 1) := by decide +kernel
theorem dX3_exchangeSpoons_13 : decode cX3_exchangeSpoons 13 = .ok (.istore 4, 2) := by decide +kernel
theorem dX3_exchangeSpoons_15 : decode cX3_exchangeSpoons 15 = .ok (.aload_n 0, 1) := by decide +kernel
theorem dX3_exchangeSpoons_16 : decode cX3_exchangeSpoons 16 = .ok (.getfield 9, 3) := by decide +kernel
theorem dX3_exchangeSpoons_19 : decode cX3_exchangeSpoons 19 = .ok (.iload_n 1, 1) := by decide +kernel
theorem dX3_exchangeSpoons_20 : decode cX3_exchangeSpoons 20 = .ok (.aload_n 0, 1) := by decide +kernel
theorem dX3_exchangeSpoons_21 : decode cX3_exchangeSpoons 21 = .ok (.getfield 9, 3) := by decide +kernel
theorem dX3_exchangeSpoons_24 : decode cX3_exchangeSpoons 24 = .ok (.iload_n 2, 1) := by decide +kernel
theorem dX3_exchangeSpoons_25 : decode cX3_exchangeSpoons 25 = .ok (.iaload, 1) := by decide +kernel
theorem dX3_exchangeSpoons_26 : decode cX3_exchangeSpoons 26 = .ok (.iastore, 1) := by decide +kernel
theorem dX3_exchangeSpoons_27 : decode cX3_exchangeSpoons 27 = .ok (.aload_n 0, 1) := by decide +kernel
theorem dX3_exchangeSpoons_28 : decode cX3_exchangeSpoons 28 = .ok (.getfield 15, 3) := by decide +kernel
theorem dX3_exchangeSpoons_31 : decode cX3_exchangeSpoons 31 = .ok (.iload_n 1, 1) := by decide +kernel
theorem dX3_exchangeSpoons_32 : decode cX3_exchangeSpoons 32 = .ok (.aload_n 0, 1) := by decide +kernel
theorem dX3_exchangeSpoons_33 : decode cX3_exchangeSpoons 33 = .ok (.getfield 15, 3) := by decide +kernel
theorem dX3_exchangeSpoons_36 : decode cX3_exchangeSpoons 36 = .ok (.iload_n 2, 1) := by decide +kernel
theorem dX3_exchangeSpoons_37 : decode cX3_exchangeSpoons 37 = .ok (.iaload, 1) := by decide +kernel
theorem dX3_exchangeSpoons_38 : decode cX3_exchangeSpoons 38 = .ok (.iastore, 1) := by decide +kernel
theorem dX3_exchangeSpoons_39 : decode cX3_exchangeSpoons 39 = .ok (.aload_n 0, 1) := by decide +kernel
theorem dX3_exchangeSpoons_40 : decode cX3_exchangeSpoons 40 = .ok (.getfield 9, 3) := by decide +kernel
theorem dX3_exchangeSpoons_43 : decode cX3_exchangeSpoons 43 = .ok (.iload_n 2, 1) := by decide +kernel
theorem dX3_exchangeSpoons_44 : decode cX3_exchangeSpoons 44 = .ok (.iload_n 3, 1) := by decide +kernel
theorem dX3_exchangeSpoons_45 : decode cX3_exchangeSpoons 45 = .ok (.iastore, 1) := by decide +kernel
theorem dX3_exchangeSpoons_46 : decode cX3_exchangeSpoons 46 = .ok (.aload_n 0, 1) := by decide +kernel
theorem dX3_exchangeSpoons_47 : decode cX3_exchangeSpoons 47 = .ok (.getfield 15, 3) := by decide +kernel
theorem dX3_exchangeSpoons_50 : decode cX3_exchangeSpoons 50 = .ok (.iload_n 2, 1) := by decide +kernel
theorem dX3_exchangeSpoons_51 : decode cX3_exchangeSpoons 51 = .ok (.iload 4, 2) := by decide +kernel
theorem dX3_exchangeSpoons_53 : decode cX3_exchangeSpoons 53 = .ok (.iastore, 1) := by decide +kernel
theorem dX3_exchangeSpoons_54 : decode cX3_exchangeSpoons 54 = .ok (.return_, 1) := by decide +kernel
theorem dX3_fastDay_0 : decode cX3_fastDay 0 = .ok (.iconst 0, 1) := by decide +kernel
theorem dX3_fastDay_1 : decode cX3_fastDay 1 = .ok (.istore_n 1, 1) := by decide +kernel
theorem dX3_fastDay_2 : decode cX3_fastDay 2 = .ok (.iload_n 1, 1) := by decide +kernel
theorem dX3_fastDay_3 : decode cX3_fastDay 3 = .ok (.aload_n 0, 1) := by decide +kernel
theorem dX3_fastDay_4 : decode cX3_fastDay 4 = .ok (.getfield 27, 3) := by decide +kernel
theorem dX3_fastDay_7 : decode cX3_fastDay 7 = .ok (.if_icmp .ge 31, 3) := by decide +kernel
theorem dX3_fastDay_10 : decode cX3_fastDay 10 = .ok (.aload_n 0, 1) := by decide +kernel
theorem dX3_fastDay_11 : decode cX3_fastDay 11 = .ok (.getfield 18, 3) := by decide +kernel
theorem dX3_fastDay_14 : decode cX3_fastDay 14 = .ok (.iload_n 1, 1) := by decide +kernel
theorem dX3_fastDay_15 : decode cX3_fastDay 15 = .ok (.aload_n 0, 1) := by decide +kernel
theorem dX3_fastDay_16 : decode cX3_fastDay 16 = .ok (.getfield 18, 3) := by decide +kernel
theorem dX3_fastDay_19 : decode cX3_fastDay 19 = .ok (.iload_n 1, 1) := by decide +kernel
theorem dX3_fastDay_20 : decode cX3_fastDay 20 = .ok (.iaload, 1) := by decide +kernel
theorem dX3_fastDay_21 : decode cX3_fastDay 21 = .ok (.aload_n 0, 1) := by decide +kernel
theorem dX3_fastDay_22 : decode cX3_fastDay 22 = .ok (.getfield 43, 3) := by decide +kernel
theorem dX3_fastDay_25 : decode cX3_fastDay 25 = .ok (.iadd, 1) := by decide +kernel
theorem dX3_fastDay_26 : decode cX3_fastDay 26 = .ok (.bipush 60, 2) := by decide +kernel
theorem dX3_fastDay_28 : decode cX3_fastDay 28 = .ok (.invokestatic 60, 3) := by decide +kernel
theorem dX3_fastDay_31 : decode cX3_fastDay 31 = .ok (.iastore, 1) := by decide +kernel
theorem dX3_fastDay_32 : decode cX3_fastDay 32 = .ok (.iinc 1 1, 3) := by decide +kernel
theorem dX3_fastDay_35 : decode cX3_fastDay 35 = .ok (.goto (-33), 3) := by decide +kernel
theorem dX3_fastDay_38 : decode cX3_fastDay 38 = .ok (.aload_n 0, 1) := by decide +kernel
theorem dX3_fastDay_39 : decode cX3_fastDay 39 = .ok (.iconst 0, 1) := by decide +kernel
theorem dX3_fastDay_40 : decode cX3_fastDay 40 = .ok (.putfield 34, 3) := by decide +kernel
theorem dX3_fastDay_43 : decode cX3_fastDay 43 = .ok (.return_, 1) := by decide +kernel
theorem dX3_liveBy_0 : decode cX3_liveBy 0 = .ok (.iload_n 1, 1) := by decide +kernel
theorem dX3_liveBy_1 : decode cX3_liveBy 1 = .ok (.iconst 4, 1) := by decide +kernel
theorem dX3_liveBy_2 : decode cX3_liveBy 2 = .ok (.idiv, 1) := by decide +kernel
theorem dX3_liveBy_3 : decode cX3_liveBy 3 = .ok (.istore_n 2, 1) := by decide +kernel
theorem dX3_liveBy_4 : decode cX3_liveBy 4 = .ok (.iload_n 1, 1) := by decide +kernel
theorem dX3_liveBy_5 : decode cX3_liveBy 5 = .ok (.iconst 4, 1) := by decide +kernel
theorem dX3_liveBy_6 : decode cX3_liveBy 6 = .ok (.irem, 1) := by decide +kernel
theorem dX3_liveBy_7 : decode cX3_liveBy 7 = .ok (.tableswitch 68 0 2 #[25, 33, 55], 25) := by decide +kernel
theorem dX3_liveBy_32 : decode cX3_liveBy 32 = .ok (.aload_n 0, 1) := by decide +kernel
theorem dX3_liveBy_33 : decode cX3_liveBy 33 = .ok (.invokevirtual 75, 3) := by decide +kernel
theorem dX3_liveBy_36 : decode cX3_liveBy 36 = .ok (.pop, 1) := by decide +kernel
theorem dX3_liveBy_37 : decode cX3_liveBy 37 = .ok (.goto 42, 3) := by decide +kernel
theorem dX3_liveBy_40 : decode cX3_liveBy 40 = .ok (.iload_n 2, 1) := by decide +kernel
theorem dX3_liveBy_41 : decode cX3_liveBy 41 = .ok (.bipush 60, 2) := by decide +kernel
theorem dX3_liveBy_43 : decode cX3_liveBy 43 = .ok (.irem, 1) := by decide +kernel
theorem dX3_liveBy_44 : decode cX3_liveBy 44 = .ok (.aload_n 0, 1) := by decide +kernel
theorem dX3_liveBy_45 : decode cX3_liveBy 45 = .ok (.getfield 31, 3) := by decide +kernel
theorem dX3_liveBy_48 : decode cX3_liveBy 48 = .ok (.if_icmp .le 31, 3) := by decide +kernel
theorem dX3_liveBy_51 : decode cX3_liveBy 51 = .ok (.aload_n 0, 1) := by decide +kernel
theorem dX3_liveBy_52 : decode cX3_liveBy 52 = .ok (.iload_n 2, 1) := by decide +kernel
theorem dX3_liveBy_53 : decode cX3_liveBy 53 = .ok (.bipush 60, 2) := by decide +kernel
theorem dX3_liveBy_55 : decode cX3_liveBy 55 = .ok (.irem, 1) := by decide +kernel
theorem dX3_liveBy_56 : decode cX3_liveBy 56 = .ok (.invokevirtual 88, 3) := by decide +kernel
theorem dX3_liveBy_59 : decode cX3_liveBy 59 = .ok (.goto 20, 3) := by decide +kernel
theorem dX3_liveBy_62 : decode cX3_liveBy 62 = .ok (.iload_n 2, 1) := by decide +kernel
theorem dX3_liveBy_63 : decode cX3_liveBy 63 = .ok (.iconst 3, 1) := by decide +kernel
theorem dX3_liveBy_64 : decode cX3_liveBy 64 = .ok (.irem, 1) := by decide +kernel
theorem dX3_liveBy_65 : decode cX3_liveBy 65 = .ok (.ifCond .ne 14, 3) := by decide +kernel
theorem dX3_liveBy_68 : decode cX3_liveBy 68 = .ok (.aload_n 0, 1) := by decide +kernel
theorem dX3_liveBy_69 : decode cX3_liveBy 69 = .ok (.invokevirtual 92, 3) := by decide +kernel
theorem dX3_liveBy_72 : decode cX3_liveBy 72 = .ok (.goto 7, 3) := by decide +kernel
theorem dX3_liveBy_75 : decode cX3_liveBy 75 = .ok (.aload_n 0, 1) := by decide +kernel
theorem dX3_liveBy_76 : decode cX3_liveBy 76 = .ok (.invokevirtual 95, 3) := by decide +kernel
theorem dX3_liveBy_79 : decode cX3_liveBy 79 = .ok (.return_, 1) := by decide +kernel
theorem dX3_hungerOfAll_0 : decode cX3_hungerOfAll 0 = .ok (.aload_n 0, 1) := by decide +kernel
theorem dX3_hungerOfAll_1 : decode cX3_hungerOfAll 1 = .ok (.aload_n 0, 1) := by decide +kernel
theorem dX3_hungerOfAll_2 : decode cX3_hungerOfAll 2 = .ok (.getfield 18, 3) := by decide +kernel
theorem dX3_hungerOfAll_5 : decode cX3_hungerOfAll 5 = .ok (.invokevirtual 98, 3) := by decide +kernel
theorem dX3_hungerOfAll_8 : decode cX3_hungerOfAll 8 = .ok (.ireturn, 1) := by decide +kernel
theorem dX3_eatenInAll_0 : decode cX3_eatenInAll 0 = .ok (.aload_n 0, 1) := by decide +kernel
theorem dX3_eatenInAll_1 : decode cX3_eatenInAll 1 = .ok (.aload_n 0, 1) := by decide +kernel
theorem dX3_eatenInAll_2 : decode cX3_eatenInAll 2 = .ok (.getfield 24, 3) := by decide +kernel
theorem dX3_eatenInAll_5 : decode cX3_eatenInAll 5 = .ok (.invokevirtual 98, 3) := by decide +kernel
theorem dX3_eatenInAll_8 : decode cX3_eatenInAll 8 = .ok (.ireturn, 1) := by decide +kernel
theorem dX3_sum_0 : decode cX3_sum 0 = .ok (.iconst 0, 1) := by decide +kernel
theorem dX3_sum_1 : decode cX3_sum 1 = .ok (.istore_n 2, 1) := by decide +kernel
theorem dX3_sum_2 : decode cX3_sum 2 = .ok (.iconst 0, 1) := by decide +kernel
theorem dX3_sum_3 : decode cX3_sum 3 = .ok (.istore_n 3, 1) := by decide +kernel
theorem dX3_sum_4 : decode cX3_sum 4 = .ok (.iload_n 3, 1) := by decide +kernel
theorem dX3_sum_5 : decode cX3_sum 5 = .ok (.aload_n 0, 1) := by decide +kernel
theorem dX3_sum_6 : decode cX3_sum 6 = .ok (.getfield 27, 3) := by decide +kernel
theorem dX3_sum_9 : decode cX3_sum 9 = .ok (.if_icmp .ge 21, 3) := by decide +kernel
theorem dX3_sum_12 : decode cX3_sum 12 = .ok (.iload_n 3, 1) := by decide +kernel
theorem dX3_sum_13 : decode cX3_sum 13 = .ok (.aload_n 1, 1) := by decide +kernel
theorem dX3_sum_14 : decode cX3_sum 14 = .ok (.arraylength, 1) := by decide +kernel
theorem dX3_sum_15 : decode cX3_sum 15 = .ok (.if_icmp .ge 15, 3) := by decide +kernel
theorem dX3_sum_18 : decode cX3_sum 18 = .ok (.iload_n 2, 1) := by decide +kernel
theorem dX3_sum_19 : decode cX3_sum 19 = .ok (.aload_n 1, 1) := by decide +kernel
theorem dX3_sum_20 : decode cX3_sum 20 = .ok (.iload_n 3, 1) := by decide +kernel
theorem dX3_sum_21 : decode cX3_sum 21 = .ok (.iaload, 1) := by decide +kernel
theorem dX3_sum_22 : decode cX3_sum 22 = .ok (.iadd, 1) := by decide +kernel
theorem dX3_sum_23 : decode cX3_sum 23 = .ok (.istore_n 2, 1) := by decide +kernel
theorem dX3_sum_24 : decode cX3_sum 24 = .ok (.iinc 3 1, 3) := by decide +kernel
theorem dX3_sum_27 : decode cX3_sum 27 = .ok (.goto (-23), 3) := by decide +kernel
theorem dX3_sum_30 : decode cX3_sum 30 = .ok (.iload_n 2, 1) := by decide +kernel
theorem dX3_sum_31 : decode cX3_sum 31 = .ok (.ireturn, 1) := by decide +kernel
end
section
theorem dX0_init_0 : decode cX0_init 0 = .ok (.aload_n 0, 1) := by decide +kernel
theorem dX0_init_1 : decode cX0_init 1 = .ok (.invokespecial 1, 3) := by decide +kernel
theorem dX0_init_4 : decode cX0_init 4 = .ok (.aload_n 0, 1) := by decide +kernel
theorem dX0_init_5 : decode cX0_init 5 = .ok (.iload_n 1, 1) := by decide +kernel
theorem dX0_init_6 : decode cX0_init 6 = .ok (.iconst 1, 1) := by decide +kernel
theorem dX0_init_7 : decode cX0_init 7 = .ok (.invokestatic 7, 3) := by decide +kernel
theorem dX0_init_10 : decode cX0_init 10 = .ok (.anewarray 13, 3) := by decide +kernel
theorem dX0_init_13 : decode cX0_init 13 = .ok (.putfield 15, 3) := by decide +kernel
theorem dX0_init_16 : decode cX0_init 16 = .ok (.iconst 0, 1) := by decide +kernel
theorem dX0_init_17 : decode cX0_init 17 = .ok (.istore_n 2, 1) := by decide +kernel
theorem dX0_init_18 : decode cX0_init 18 = .ok (.iload_n 2, 1) := by decide +kernel
theorem dX0_init_19 : decode cX0_init 19 = .ok (.aload_n 0, 1) := by decide +kernel
theorem dX0_init_20 : decode cX0_init 20 = .ok (.getfield 15, 3) := by decide +kernel
theorem dX0_init_23 : decode cX0_init 23 = .ok (.arraylength, 1) := by decide +kernel
theorem dX0_init_24 : decode cX0_init 24 = .ok (.if_icmp .ge 22, 3) := by decide +kernel
theorem dX0_init_27 : decode cX0_init 27 = .ok (.aload_n 0, 1) := by decide +kernel
theorem dX0_init_28 : decode cX0_init 28 = .ok (.getfield 15, 3) := by decide +kernel
theorem dX0_init_31 : decode cX0_init 31 = .ok (.iload_n 2, 1) := by decide +kernel
theorem dX0_init_32 : decode cX0_init 32 = .ok (.new 13, 3) := by decide +kernel
theorem dX0_init_35 : decode cX0_init 35 = .ok (.dup, 1) := by decide +kernel
theorem dX0_init_36 : decode cX0_init 36 = .ok (.invokespecial 21, 3) := by decide +kernel
theorem dX0_init_39 : decode cX0_init 39 = .ok (.aastore, 1) := by decide +kernel
theorem dX0_init_40 : decode cX0_init 40 = .ok (.iinc 2 1, 3) := by decide +kernel
theorem dX0_init_43 : decode cX0_init 43 = .ok (.goto (-25), 3) := by decide +kernel
theorem dX0_init_46 : decode cX0_init 46 = .ok (.return_, 1) := by decide +kernel
theorem dX0_clear_0 : decode cX0_clear 0 = .ok (.aload_n 0, 1) := by decide +kernel
theorem dX0_clear_1 : decode cX0_clear 1 = .ok (.iconst 0, 1) := by decide +kernel
theorem dX0_clear_2 : decode cX0_clear 2 = .ok (.putfield 22, 3) := by decide +kernel
theorem dX0_clear_5 : decode cX0_clear 5 = .ok (.return_, 1) := by decide +kernel
theorem dX0_put_0 : decode cX0_put 0 = .ok (.aload_n 0, 1) := by decide +kernel
theorem dX0_put_1 : decode cX0_put 1 = .ok (.getfield 22, 3) := by decide +kernel
theorem dX0_put_4 : decode cX0_put 4 = .ok (.aload_n 0, 1) := by decide +kernel
theorem dX0_put_5 : decode cX0_put 5 = .ok (.getfield 15, 3) := by decide +kernel
theorem dX0_put_8 : decode cX0_put 8 = .ok (.arraylength, 1) := by decide +kernel
theorem dX0_put_9 : decode cX0_put 9 = .ok (.if_icmp .lt 7, 3) := by decide +kernel
theorem dX0_put_12 : decode cX0_put 12 = .ok (.aload_n 0, 1) := by decide +kernel
theorem dX0_put_13 : decode cX0_put 13 = .ok (.invokevirtual 26, 3) := by decide +kernel
theorem dX0_put_16 : decode cX0_put 16 = .ok (.aload_n 0, 1) := by decide +kernel
theorem dX0_put_17 : decode cX0_put 17 = .ok (.getfield 15, 3) := by decide +kernel
theorem dX0_put_20 : decode cX0_put 20 = .ok (.aload_n 0, 1) := by decide +kernel
theorem dX0_put_21 : decode cX0_put 21 = .ok (.getfield 22, 3) := by decide +kernel
theorem dX0_put_24 : decode cX0_put 24 = .ok (.aaload, 1) := by decide +kernel
theorem dX0_put_25 : decode cX0_put 25 = .ok (.aload_n 1, 1) := by decide +kernel
theorem dX0_put_26 : decode cX0_put 26 = .ok (.invokevirtual 29, 3) := by decide +kernel
theorem dX0_put_29 : decode cX0_put 29 = .ok (.aload_n 0, 1) := by decide +kernel
theorem dX0_put_30 : decode cX0_put 30 = .ok (.dup, 1) := by decide +kernel
theorem dX0_put_31 : decode cX0_put 31 = .ok (.getfield 22, 3) := by decide +kernel
theorem dX0_put_34 : decode cX0_put 34 = .ok (.iconst 1, 1) := by decide +kernel
theorem dX0_put_35 : decode cX0_put 35 = .ok (.iadd, 1) := by decide +kernel
theorem dX0_put_36 : decode cX0_put 36 = .ok (.putfield 22, 3) := by decide +kernel
theorem dX0_put_39 : decode cX0_put 39 = .ok (.return_, 1) := by decide +kernel
theorem dX0_dropLowest_0 : decode cX0_dropLowest 0 = .ok (.aload_n 0, 1) := by decide +kernel
theorem dX0_dropLowest_1 : decode cX0_dropLowest 1 = .ok (.getfield 15, 3) := by decide +kernel
theorem dX0_dropLowest_4 : decode cX0_dropLowest 4 = .ok (.iconst 0, 1) := by decide +kernel
theorem dX0_dropLowest_5 : decode cX0_dropLowest 5 = .ok (.aaload, 1) := by decide +kernel
theorem dX0_dropLowest_6 : decode cX0_dropLowest 6 = .ok (.astore_n 1, 1) := by decide +kernel
theorem dX0_dropLowest_7 : decode cX0_dropLowest 7 = .ok (.iconst 1, 1) := by decide +kernel
theorem dX0_dropLowest_8 : decode cX0_dropLowest 8 = .ok (.istore_n 2, 1) := by decide +kernel
theorem dX0_dropLowest_9 : decode cX0_dropLowest 9 = .ok (.iload_n 2, 1) := by decide +kernel
theorem dX0_dropLowest_10 : decode cX0_dropLowest 10 = .ok (.aload_n 0, 1) := by decide +kernel
theorem dX0_dropLowest_11 : decode cX0_dropLowest 11 = .ok (.getfield 15, 3) := by decide +kernel
theorem dX0_dropLowest_14 : decode cX0_dropLowest 14 = .ok (.arraylength, 1) := by decide +kernel
theorem dX0_dropLowest_15 : decode cX0_dropLowest 15 = .ok (.if_icmp .ge 23, 3) := by decide +kernel
theorem dX0_dropLowest_18 : decode cX0_dropLowest 18 = .ok (.aload_n 0, 1) := by decide +kernel
theorem dX0_dropLowest_19 : decode cX0_dropLowest 19 = .ok (.getfield 15, 3) := by decide +kernel
theorem dX0_dropLowest_22 : decode cX0_dropLowest 22 = .ok (.iload_n 2, 1) := by decide +kernel
theorem dX0_dropLowest_23 : decode cX0_dropLowest 23 = .ok (.iconst 1, 1) := by decide +kernel
theorem dX0_dropLowest_24 : decode cX0_dropLowest 24 = .ok (.isub, 1) := by decide +kernel
theorem dX0_dropLowest_25 : decode cX0_dropLowest 25 = .ok (.aload_n 0, 1) := by decide +kernel
theorem dX0_dropLowest_26 : decode cX0_dropLowest 26 = .ok (.getfield 15, 3) := by decide +kernel
theorem dX0_dropLowest_29 : decode cX0_dropLowest 29 = .ok (.iload_n 2, 1) := by decide +kernel
theorem dX0_dropLowest_30 : decode cX0_dropLowest 30 = .ok (.aaload, 1) := by decide +kernel
theorem dX0_dropLowest_31 : decode cX0_dropLowest 31 = .ok (.aastore, 1) := by decide +kernel
theorem dX0_dropLowest_32 : decode cX0_dropLowest 32 = .ok (.iinc 2 1, 3) := by decide +kernel
theorem dX0_dropLowest_35 : decode cX0_dropLowest 35 = .ok (.goto (-26), 3) := by decide +kernel
theorem dX0_dropLowest_38 : decode cX0_dropLowest 38 = .ok (.aload_n 0, 1) := by decide +kernel
theorem dX0_dropLowest_39 : decode cX0_dropLowest 39 = .ok (.aload_n 0, 1) := by decide +kernel
theorem dX0_dropLowest_40 : decode cX0_dropLowest 40 = .ok (.getfield 15, 3) := by decide +kernel
theorem dX0_dropLowest_43 : decode cX0_dropLowest 43 = .ok (.arraylength, 1) := by decide +kernel
theorem dX0_dropLowest_44 : decode cX0_dropLowest 44 = .ok (.iconst 1, 1) := by decide +kernel
theorem dX0_dropLowest_45 : decode cX0_dropLowest 45 = .ok (.isub, 1) := by decide +kernel
theorem dX0_dropLowest_46 : decode cX0_dropLowest 46 = .ok (.putfield 22, 3) := by decide +kernel
theorem dX0_dropLowest_49 : decode cX0_dropLowest 49 = .ok (.aload_n 0, 1) := by decide +kernel
theorem dX0_dropLowest_50 : decode cX0_dropLowest 50 = .ok (.getfield 15, 3) := by decide +kernel
theorem dX0_dropLowest_53 : decode cX0_dropLowest 53 = .ok (.aload_n 0, 1) := by decide +kernel
theorem dX0_dropLowest_54 : decode cX0_dropLowest 54 = .ok (.getfield 22, 3) := by decide +kernel
theorem dX0_dropLowest_57 : decode cX0_dropLowest 57 = .ok (.aload_n 1, 1) := by decide +kernel
theorem dX0_dropLowest_58 : decode cX0_dropLowest 58 = .ok (.aastore, 1) := by decide +kernel
theorem dX0_dropLowest_59 : decode cX0_dropLowest 59 = .ok (.return_, 1) := by decide +kernel
theorem dX0_takeLast_0 : decode cX0_takeLast 0 = .ok (.aload_n 0, 1) := by decide +kernel
theorem dX0_takeLast_1 : decode cX0_takeLast 1 = .ok (.getfield 22, 3) := by decide +kernel
theorem dX0_takeLast_4 : decode cX0_takeLast 4 = .ok (.iconst 1, 1) := by decide +kernel
theorem dX0_takeLast_5 : decode cX0_takeLast 5 = .ok (.aload_n 0, 1) := by decide +kernel
theorem dX0_takeLast_6 : decode cX0_takeLast 6 = .ok (.getfield 15, 3) := by decide +kernel
theorem dX0_takeLast_9 : decode cX0_takeLast 9 = .ok (.arraylength, 1) := by decide +kernel
theorem dX0_takeLast_10 : decode cX0_takeLast 10 = .ok (.invokestatic 33, 3) := by decide +kernel
theorem dX0_takeLast_13 : decode cX0_takeLast 13 = .ok (.ifCond .eq 5, 3) := by decide +kernel
theorem dX0_takeLast_16 : decode cX0_takeLast 16 = .ok (.iconst 0, 1) := by decide +kernel
theorem dX0_takeLast_17 : decode cX0_takeLast 17 = .ok (.ireturn, 1) := by decide +kernel
theorem dX0_takeLast_18 : decode cX0_takeLast 18 = .ok (.aload_n 0, 1) := by decide +kernel
theorem dX0_takeLast_19 : decode cX0_takeLast 19 = .ok (.dup, 1) := by decide +kernel
theorem dX0_takeLast_20 : decode cX0_takeLast 20 = .ok (.getfield 22, 3) := by decide +kernel
theorem dX0_takeLast_23 : decode cX0_takeLast 23 = .ok (.iconst 1, 1) := by decide +kernel
theorem dX0_takeLast_24 : decode cX0_takeLast 24 = .ok (.isub, 1) := by decide +kernel
theorem dX0_takeLast_25 : decode cX0_takeLast 25 = .ok (.putfield 22, 3) := by decide +kernel
theorem dX0_takeLast_28 : decode cX0_takeLast 28 = .ok (.aload_n 1, 1) := by decide +kernel
theorem dX0_takeLast_29 : decode cX0_takeLast 29 = .ok (.aload_n 0, 1) := by decide +kernel
theorem dX0_takeLast_30 : decode cX0_takeLast 30 = .ok (.getfield 15, 3) := by decide +kernel
theorem dX0_takeLast_33 : decode cX0_takeLast 33 = .ok (.aload_n 0, 1) := by decide +kernel
theorem dX0_takeLast_34 : decode cX0_takeLast 34 = .ok (.getfield 22, 3) := by decide +kernel
theorem dX0_takeLast_37 : decode cX0_takeLast 37 = .ok (.aaload, 1) := by decide +kernel
theorem dX0_takeLast_38 : decode cX0_takeLast 38 = .ok (.invokevirtual 29, 3) := by decide +kernel
theorem dX0_takeLast_41 : decode cX0_takeLast 41 = .ok (.iconst 1, 1) := by decide +kernel
theorem dX0_takeLast_42 : decode cX0_takeLast 42 = .ok (.ireturn, 1) := by decide +kernel
theorem dX1_init_0 : decode cX1_init 0 = .ok (.aload_n 0, 1) := by decide +kernel
theorem dX1_init_1 : decode cX1_init 1 = .ok (.invokespecial 3, 3) := by decide +kernel
theorem dX1_init_4 : decode cX1_init 4 = .ok (.aload_n 0, 1) := by decide +kernel
theorem dX1_init_5 : decode cX1_init 5 = .ok (.bipush 7, 2) := by decide +kernel
theorem dX1_init_7 : decode cX1_init 7 = .ok (.newarray .int, 2) := by decide +kernel
theorem dX1_init_9 : decode cX1_init 9 = .ok (.putfield 9, 3) := by decide +kernel
theorem dX1_init_12 : decode cX1_init 12 = .ok (.return_, 1) := by decide +kernel
theorem dX1_measure_0 : decode cX1_measure 0 = .ok (.aload_n 0, 1) := by decide +kernel
theorem dX1_measure_1 : decode cX1_measure 1 = .ok (.aload_n 1, 1) := by decide +kernel
theorem dX1_measure_2 : decode cX1_measure 2 = .ok (.getfield 15, 3) := by decide +kernel
theorem dX1_measure_5 : decode cX1_measure 5 = .ok (.putfield 21, 3) := by decide +kernel
theorem dX1_measure_8 : decode cX1_measure 8 = .ok (.aload_n 0, 1) := by decide +kernel
theorem dX1_measure_9 : decode cX1_measure 9 = .ok (.aload_n 1, 1) := by decide +kernel
theorem dX1_measure_10 : decode cX1_measure 10 = .ok (.getfield 22, 3) := by decide +kernel
theorem dX1_measure_13 : decode cX1_measure 13 = .ok (.putfield 25, 3) := by decide +kernel
theorem dX1_measure_16 : decode cX1_measure 16 = .ok (.iconst 0, 1) := by decide +kernel
theorem dX1_measure_17 : decode cX1_measure 17 = .ok (.istore_n 2, 1) := by decide +kernel
theorem dX1_measure_18 : decode cX1_measure 18 = .ok (.iload_n 2, 1) := by decide +kernel
theorem dX1_measure_19 : decode cX1_measure 19 = .ok (.aload_n 0, 1) := by decide +kernel
theorem dX1_measure_20 : decode cX1_measure 20 = .ok (.getfield 21, 3) := by decide +kernel
theorem dX1_measure_23 : decode cX1_measure 23 = .ok (.if_icmp .ge 20, 3) := by decide +kernel
theorem dX1_measure_26 : decode cX1_measure 26 = .ok (.aload_n 0, 1) := by decide +kernel
theorem dX1_measure_27 : decode cX1_measure 27 = .ok (.getfield 9, 3) := by decide +kernel
theorem dX1_measure_30 : decode cX1_measure 30 = .ok (.iload_n 2, 1) := by decide +kernel
theorem dX1_measure_31 : decode cX1_measure 31 = .ok (.aload_n 1, 1) := by decide +kernel
theorem dX1_measure_32 : decode cX1_measure 32 = .ok (.iload_n 2, 1) := by decide +kernel
theorem dX1_measure_33 : decode cX1_measure 33 = .ok (.invokevirtual 26, 3) := by decide +kernel
theorem dX1_measure_36 : decode cX1_measure 36 = .ok (.iastore, 1) := by decide +kernel
theorem dX1_measure_37 : decode cX1_measure 37 = .ok (.iinc 2 1, 3) := by decide +kernel
theorem dX1_measure_40 : decode cX1_measure 40 = .ok (.goto (-22), 3) := by decide +kernel
theorem dX1_measure_43 : decode cX1_measure 43 = .ok (.return_, 1) := by decide +kernel
theorem dX1_howMany_0 : decode cX1_howMany 0 = .ok (.iconst 1, 1) := by decide +kernel
theorem dX1_howMany_1 : decode cX1_howMany 1 = .ok (.aload_n 0, 1) := by decide +kernel
theorem dX1_howMany_2 : decode cX1_howMany 2 = .ok (.getfield 21, 3) := by decide +kernel
theorem dX1_howMany_5 : decode cX1_howMany 5 = .ok (.ishl, 1) := by decide +kernel
theorem dX1_howMany_6 : decode cX1_howMany 6 = .ok (.ireturn, 1) := by decide +kernel
theorem dX1_letsPass_0 : decode cX1_letsPass 0 = .ok (.iconst 0, 1) := by decide +kernel
theorem dX1_letsPass_1 : decode cX1_letsPass 1 = .ok (.istore_n 2, 1) := by decide +kernel
theorem dX1_letsPass_2 : decode cX1_letsPass 2 = .ok (.iconst 0, 1) := by decide +kernel
theorem dX1_letsPass_3 : decode cX1_letsPass 3 = .ok (.istore_n 3, 1) := by decide +kernel
theorem dX1_letsPass_4 : decode cX1_letsPass 4 = .ok (.iload_n 3, 1) := by decide +kernel
theorem dX1_letsPass_5 : decode cX1_letsPass 5 = .ok (.aload_n 0, 1) := by decide +kernel
theorem dX1_letsPass_6 : decode cX1_letsPass 6 = .ok (.getfield 21, 3) := by decide +kernel
theorem dX1_letsPass_9 : decode cX1_letsPass 9 = .ok (.if_icmp .ge 26, 3) := by decide +kernel
theorem dX1_letsPass_12 : decode cX1_letsPass 12 = .ok (.iload_n 1, 1) := by decide +kernel
theorem dX1_letsPass_13 : decode cX1_letsPass 13 = .ok (.iload_n 3, 1) := by decide +kernel
theorem dX1_letsPass_14 : decode cX1_letsPass 14 = .ok (.invokestatic 29, 3) := by decide +kernel
theorem dX1_letsPass_17 : decode cX1_letsPass 17 = .ok (.ifCond .eq 12, 3) := by decide +kernel
theorem dX1_letsPass_20 : decode cX1_letsPass 20 = .ok (.iload_n 2, 1) := by decide +kernel
theorem dX1_letsPass_21 : decode cX1_letsPass 21 = .ok (.aload_n 0, 1) := by decide +kernel
theorem dX1_letsPass_22 : decode cX1_letsPass 22 = .ok (.getfield 9, 3) := by decide +kernel
theorem dX1_letsPass_25 : decode cX1_letsPass 25 = .ok (.iload_n 3, 1) := by decide +kernel
theorem dX1_letsPass_26 : decode cX1_letsPass 26 = .ok (.iaload, 1) := by decide +kernel
theorem dX1_letsPass_27 : decode cX1_letsPass 27 = .ok (.iadd, 1) := by decide +kernel
theorem dX1_letsPass_28 : decode cX1_letsPass 28 = .ok (.istore_n 2, 1) := by decide +kernel
theorem dX1_letsPass_29 : decode cX1_letsPass 29 = .ok (.iinc 3 1, 3) := by decide +kernel
theorem dX1_letsPass_32 : decode cX1_letsPass 32 = .ok (.goto (-28), 3) := by decide +kernel
theorem dX1_letsPass_35 : decode cX1_letsPass 35 = .ok (.iload_n 2, 1) := by decide +kernel
theorem dX1_letsPass_36 : decode cX1_letsPass 36 = .ok (.aload_n 0, 1) := by decide +kernel
theorem dX1_letsPass_37 : decode cX1_letsPass 37 = .ok (.getfield 25, 3) := by decide +kernel
theorem dX1_letsPass_40 : decode cX1_letsPass 40 = .ok (.if_icmp .lt 7, 3) := by decide +kernel
theorem dX1_letsPass_43 : decode cX1_letsPass 43 = .ok (.iconst 1, 1) := by decide +kernel
theorem dX1_letsPass_44 : decode cX1_letsPass 44 = .ok (.goto 4, 3) := by decide +kernel
theorem dX1_letsPass_47 : decode cX1_letsPass 47 = .ok (.iconst 0, 1) := by decide +kernel
theorem dX1_letsPass_48 : decode cX1_letsPass 48 = .ok (.ireturn, 1) := by decide +kernel
theorem dX1_isIn_0 : decode cX1_isIn 0 = .ok (.iload_n 0, 1) := by decide +kernel
theorem dX1_isIn_1 : decode cX1_isIn 1 = .ok (.iload_n 1, 1) := by decide +kernel
theorem dX1_isIn_2 : decode cX1_isIn 2 = .ok (.ishr, 1) := by decide +kernel
theorem dX1_isIn_3 : decode cX1_isIn 3 = .ok (.iconst 1, 1) := by decide +kernel
theorem dX1_isIn_4 : decode cX1_isIn 4 = .ok (.iand, 1) := by decide +kernel
theorem dX1_isIn_5 : decode cX1_isIn 5 = .ok (.iconst 1, 1) := by decide +kernel
theorem dX1_isIn_6 : decode cX1_isIn 6 = .ok (.if_icmp .ne 7, 3) := by decide +kernel
theorem dX1_isIn_9 : decode cX1_isIn 9 = .ok (.iconst 1, 1) := by decide +kernel
theorem dX1_isIn_10 : decode cX1_isIn 10 = .ok (.goto 4, 3) := by decide +kernel
theorem dX1_isIn_13 : decode cX1_isIn 13 = .ok (.iconst 0, 1) := by decide +kernel
theorem dX1_isIn_14 : decode cX1_isIn 14 = .ok (.ireturn, 1) := by decide +kernel
theorem dX1_fewest_0 : decode cX1_fewest 0 = .ok (.bipush (-4), 2) := by decide +kernel
theorem dX1_fewest_2 : decode cX1_fewest 2 = .ok (.istore_n 1, 1) := by decide +kernel
theorem dX1_fewest_3 : decode cX1_fewest 3 = .ok (.iconst 0, 1) := by decide +kernel
theorem dX1_fewest_4 : decode cX1_fewest 4 = .ok (.istore_n 2, 1) := by decide +kernel
theorem dX1_fewest_5 : decode cX1_fewest 5 = .ok (.iload_n 2, 1) := by decide +kernel
theorem dX1_fewest_6 : decode cX1_fewest 6 = .ok (.aload_n 0, 1) := by decide +kernel
theorem dX1_fewest_7 : decode cX1_fewest 7 = .ok (.invokevirtual 33, 3) := by decide +kernel
theorem dX1_fewest_10 : decode cX1_fewest 10 = .ok (.if_icmp .ge 36, 3) := by decide +kernel
theorem dX1_fewest_13 : decode cX1_fewest 13 = .ok (.aload_n 0, 1) := by decide +kernel
theorem dX1_fewest_14 : decode cX1_fewest 14 = .ok (.iload_n 2, 1) := by decide +kernel
theorem dX1_fewest_15 : decode cX1_fewest 15 = .ok (.invokevirtual 37, 3) := by decide +kernel
theorem dX1_fewest_18 : decode cX1_fewest 18 = .ok (.ifCond .eq 22, 3) := by decide +kernel
theorem dX1_fewest_21 : decode cX1_fewest 21 = .ok (.iload_n 1, 1) := by decide +kernel
theorem dX1_fewest_22 : decode cX1_fewest 22 = .ok (.bipush (-4), 2) := by decide +kernel
theorem dX1_fewest_24 : decode cX1_fewest 24 = .ok (.if_icmp .eq 14, 3) := by decide +kernel
theorem dX1_fewest_27 : decode cX1_fewest 27 = .ok (.iload_n 2, 1) := by decide +kernel
theorem dX1_fewest_28 : decode cX1_fewest 28 = .ok (.invokestatic 41, 3) := by decide +kernel
theorem dX1_fewest_31 : decode cX1_fewest 31 = .ok (.iload_n 1, 1) := by decide +kernel
theorem dX1_fewest_32 : decode cX1_fewest 32 = .ok (.invokestatic 41, 3) := by decide +kernel
theorem dX1_fewest_35 : decode cX1_fewest 35 = .ok (.if_icmp .ge 5, 3) := by decide +kernel
theorem dX1_fewest_38 : decode cX1_fewest 38 = .ok (.iload_n 2, 1) := by decide +kernel
theorem dX1_fewest_39 : decode cX1_fewest 39 = .ok (.istore_n 1, 1) := by decide +kernel
theorem dX1_fewest_40 : decode cX1_fewest 40 = .ok (.iinc 2 1, 3) := by decide +kernel
theorem dX1_fewest_43 : decode cX1_fewest 43 = .ok (.goto (-38), 3) := by decide +kernel
theorem dX1_fewest_46 : decode cX1_fewest 46 = .ok (.iload_n 1, 1) := by decide +kernel
theorem dX1_fewest_47 : decode cX1_fewest 47 = .ok (.ireturn, 1) := by decide +kernel
theorem dX1_orders_0 : decode cX1_orders 0 = .ok (.aload_n 0, 1) := by decide +kernel
theorem dX1_orders_1 : decode cX1_orders 1 = .ok (.getfield 21, 3) := by decide +kernel
theorem dX1_orders_4 : decode cX1_orders 4 = .ok (.invokestatic 46, 3) := by decide +kernel
theorem dX1_orders_7 : decode cX1_orders 7 = .ok (.ireturn, 1) := by decide +kernel
theorem dX1_ordersDecidedBy_0 : decode cX1_ordersDecidedBy 0 = .ok (.iconst 0, 1) := by decide +kernel
theorem dX1_ordersDecidedBy_1 : decode cX1_ordersDecidedBy 1 = .ok (.istore_n 2, 1) := by decide +kernel
theorem dX1_ordersDecidedBy_2 : decode cX1_ordersDecidedBy 2 = .ok (.iconst 0, 1) := by decide +kernel
theorem dX1_ordersDecidedBy_3 : decode cX1_ordersDecidedBy 3 = .ok (.istore_n 3, 1) := by decide +kernel
theorem dX1_ordersDecidedBy_4 : decode cX1_ordersDecidedBy 4 = .ok (.iload_n 3, 1) := by decide +kernel
theorem dX1_ordersDecidedBy_5 : decode cX1_ordersDecidedBy 5 = .ok (.aload_n 0, 1) := by decide +kernel
theorem dX1_ordersDecidedBy_6 : decode cX1_ordersDecidedBy 6 = .ok (.invokevirtual 33, 3) := by decide +kernel
theorem dX1_ordersDecidedBy_9 : decode cX1_ordersDecidedBy 9 = .ok (.if_icmp .ge 64, 3) := by decide +kernel
theorem dX1_ordersDecidedBy_12 : decode cX1_ordersDecidedBy 12 = .ok (.iload_n 3, 1) := by decide +kernel
theorem dX1_ordersDecidedBy_13 : decode cX1_ordersDecidedBy 13 = .ok (.iload_n 1, 1) := by decide +kernel
theorem dX1_ordersDecidedBy_14 : decode cX1_ordersDecidedBy 14 = .ok (.invokestatic 29, 3) := by decide +kernel
theorem dX1_ordersDecidedBy_17 : decode cX1_ordersDecidedBy 17 = .ok (.ifCond .ne 50, 3) := by decide +kernel
theorem dX1_ordersDecidedBy_20 : decode cX1_ordersDecidedBy 20 = .ok (.aload_n 0, 1) := by decide +kernel
theorem dX1_ordersDecidedBy_21 : decode cX1_ordersDecidedBy 21 = .ok (.iload_n 3, 1) := by decide +kernel
theorem dX1_ordersDecidedBy_22 : decode cX1_ordersDecidedBy 22 = .ok (.invokevirtual 37, 3) := by decide +kernel
theorem dX1_ordersDecidedBy_25 : decode cX1_ordersDecidedBy 25 = .ok (.ifCond .ne 42, 3) := by decide +kernel
theorem dX1_ordersDecidedBy_28 : decode cX1_ordersDecidedBy 28 = .ok (.aload_n 0, 1) := by decide +kernel
theorem dX1_ordersDecidedBy_29 : decode cX1_ordersDecidedBy 29 = .ok (.iload_n 3, 1) := by decide +kernel
theorem dX1_ordersDecidedBy_30 : decode cX1_ordersDecidedBy 30 = .ok (.iconst 1, 1) := by decide +kernel
theorem dX1_ordersDecidedBy_31 : decode cX1_ordersDecidedBy 31 = .ok (.iload_n 1, 1) := by decide +kernel
theorem dX1_ordersDecidedBy_32 : decode cX1_ordersDecidedBy 32 = .ok (.ishl, 1) := by decide +kernel
theorem dX1_ordersDecidedBy_33 : decode cX1_ordersDecidedBy 33 = .ok (.ior, 1) := by decide +kernel
theorem dX1_ordersDecidedBy_34 : decode cX1_ordersDecidedBy 34 = .ok (.invokevirtual 37, 3) := by decide +kernel
theorem dX1_ordersDecidedBy_37 : decode cX1_ordersDecidedBy 37 = .ok (.ifCond .eq 30, 3) := by decide +kernel
theorem dX1_ordersDecidedBy_40 : decode cX1_ordersDecidedBy 40 = .ok (.iload_n 3, 1) := by decide +kernel
theorem dX1_ordersDecidedBy_41 : decode cX1_ordersDecidedBy 41 = .ok (.invokestatic 41, 3) := by decide +kernel
theorem dX1_ordersDecidedBy_44 : decode cX1_ordersDecidedBy 44 = .ok (.istore 4, 2) := by decide +kernel
theorem dX1_ordersDecidedBy_46 : decode cX1_ordersDecidedBy 46 = .ok (.iload_n 2, 1) := by decide +kernel
theorem dX1_ordersDecidedBy_47 : decode cX1_ordersDecidedBy 47 = .ok (.iload 4, 2) := by decide +kernel
theorem dX1_ordersDecidedBy_49 : decode cX1_ordersDecidedBy 49 = .ok (.invokestatic 46, 3) := by decide +kernel
theorem dX1_ordersDecidedBy_52 : decode cX1_ordersDecidedBy 52 = .ok (.aload_n 0, 1) := by decide +kernel
theorem dX1_ordersDecidedBy_53 : decode cX1_ordersDecidedBy 53 = .ok (.getfield 21, 3) := by decide +kernel
theorem dX1_ordersDecidedBy_56 : decode cX1_ordersDecidedBy 56 = .ok (.iconst 1, 1) := by decide +kernel
theorem dX1_ordersDecidedBy_57 : decode cX1_ordersDecidedBy 57 = .ok (.isub, 1) := by decide +kernel
theorem dX1_ordersDecidedBy_58 : decode cX1_ordersDecidedBy 58 = .ok (.iload 4, 2) := by decide +kernel
theorem dX1_ordersDecidedBy_60 : decode cX1_ordersDecidedBy 60 = .ok (.isub, 1) := by decide +kernel
theorem dX1_ordersDecidedBy_61 : decode cX1_ordersDecidedBy 61 = .ok (.invokestatic 46, 3) := by decide +kernel
theorem dX1_ordersDecidedBy_64 : decode cX1_ordersDecidedBy 64 = .ok (.imul, 1) := by decide +kernel
theorem dX1_ordersDecidedBy_65 : decode cX1_ordersDecidedBy 65 = .ok (.iadd, 1) := by decide +kernel
theorem dX1_ordersDecidedBy_66 : decode cX1_ordersDecidedBy 66 = .ok (.istore_n 2, 1) := by decide +kernel
theorem dX1_ordersDecidedBy_67 : decode cX1_ordersDecidedBy 67 = .ok (.iinc 3 1, 3) := by decide +kernel
theorem dX1_ordersDecidedBy_70 : decode cX1_ordersDecidedBy 70 = .ok (.goto (-66), 3) := by decide +kernel
theorem dX1_ordersDecidedBy_73 : decode cX1_ordersDecidedBy 73 = .ok (.iload_n 2, 1) := by decide +kernel
theorem dX1_ordersDecidedBy_74 : decode cX1_ordersDecidedBy 74 = .ok (.ireturn, 1) := by decide +kernel
theorem dX1_factorial_0 : decode cX1_factorial 0 = .ok (.iconst 1, 1) := by decide +kernel
theorem dX1_factorial_1 : decode cX1_factorial 1 = .ok (.istore_n 1, 1) := by decide +kernel
theorem dX1_factorial_2 : decode cX1_factorial 2 = .ok (.iconst 2, 1) := by decide +kernel
theorem dX1_factorial_3 : decode cX1_factorial 3 = .ok (.istore_n 2, 1) := by decide +kernel
theorem dX1_factorial_4 : decode cX1_factorial 4 = .ok (.iload_n 2, 1) := by decide +kernel
theorem dX1_factorial_5 : decode cX1_factorial 5 = .ok (.iload_n 0, 1) := by decide +kernel
theorem dX1_factorial_6 : decode cX1_factorial 6 = .ok (.if_icmp .gt 13, 3) := by decide +kernel
theorem dX1_factorial_9 : decode cX1_factorial 9 = .ok (.iload_n 1, 1) := by decide +kernel
theorem dX1_factorial_10 : decode cX1_factorial 10 = .ok (.iload_n 2, 1) := by decide +kernel
theorem dX1_factorial_11 : decode cX1_factorial 11 = .ok (.imul, 1) := by decide +kernel
theorem dX1_factorial_12 : decode cX1_factorial 12 = .ok (.istore_n 1, 1) := by decide +kernel
theorem dX1_factorial_13 : decode cX1_factorial 13 = .ok (.iinc 2 1, 3) := by decide +kernel
theorem dX1_factorial_16 : decode cX1_factorial 16 = .ok (.goto (-12), 3) := by decide +kernel
theorem dX1_factorial_19 : decode cX1_factorial 19 = .ok (.iload_n 1, 1) := by decide +kernel
theorem dX1_factorial_20 : decode cX1_factorial 20 = .ok (.ireturn, 1) := by decide +kernel
theorem dX1_cases_0 : decode cX1_cases 0 = .ok (.iconst 1, 1) := by decide +kernel
theorem dX1_cases_1 : decode cX1_cases 1 = .ok (.istore_n 1, 1) := by decide +kernel
theorem dX1_cases_2 : decode cX1_cases 2 = .ok (.iconst 0, 1) := by decide +kernel
theorem dX1_cases_3 : decode cX1_cases 3 = .ok (.istore_n 2, 1) := by decide +kernel
theorem dX1_cases_4 : decode cX1_cases 4 = .ok (.iload_n 2, 1) := by decide +kernel
theorem dX1_cases_5 : decode cX1_cases 5 = .ok (.aload_n 0, 1) := by decide +kernel
theorem dX1_cases_6 : decode cX1_cases 6 = .ok (.getfield 21, 3) := by decide +kernel
theorem dX1_cases_9 : decode cX1_cases 9 = .ok (.if_icmp .ge 14, 3) := by decide +kernel
theorem dX1_cases_12 : decode cX1_cases 12 = .ok (.iload_n 1, 1) := by decide +kernel
theorem dX1_cases_13 : decode cX1_cases 13 = .ok (.bipush 10, 2) := by decide +kernel
theorem dX1_cases_15 : decode cX1_cases 15 = .ok (.imul, 1) := by decide +kernel
theorem dX1_cases_16 : decode cX1_cases 16 = .ok (.istore_n 1, 1) := by decide +kernel
theorem dX1_cases_17 : decode cX1_cases 17 = .ok (.iinc 2 1, 3) := by decide +kernel
theorem dX1_cases_20 : decode cX1_cases 20 = .ok (.goto (-16), 3) := by decide +kernel
theorem dX1_cases_23 : decode cX1_cases 23 = .ok (.iload_n 1, 1) := by decide +kernel
theorem dX1_cases_24 : decode cX1_cases 24 = .ok (.ireturn, 1) := by decide +kernel
theorem dX1_passingCasesBy_0 : decode cX1_passingCasesBy 0 = .ok (.iconst 0, 1) := by decide +kernel
theorem dX1_passingCasesBy_1 : decode cX1_passingCasesBy 1 = .ok (.istore_n 2, 1) := by decide +kernel
theorem dX1_passingCasesBy_2 : decode cX1_passingCasesBy 2 = .ok (.iconst 0, 1) := by decide +kernel
theorem dX1_passingCasesBy_3 : decode cX1_passingCasesBy 3 = .ok (.istore_n 3, 1) := by decide +kernel
theorem dX1_passingCasesBy_4 : decode cX1_passingCasesBy 4 = .ok (.iload_n 3, 1) := by decide +kernel
theorem dX1_passingCasesBy_5 : decode cX1_passingCasesBy 5 = .ok (.aload_n 0, 1) := by decide +kernel
theorem dX1_passingCasesBy_6 : decode cX1_passingCasesBy 6 = .ok (.invokevirtual 33, 3) := by decide +kernel
theorem dX1_passingCasesBy_9 : decode cX1_passingCasesBy 9 = .ok (.if_icmp .ge 26, 3) := by decide +kernel
theorem dX1_passingCasesBy_12 : decode cX1_passingCasesBy 12 = .ok (.aload_n 0, 1) := by decide +kernel
theorem dX1_passingCasesBy_13 : decode cX1_passingCasesBy 13 = .ok (.iload_n 3, 1) := by decide +kernel
theorem dX1_passingCasesBy_14 : decode cX1_passingCasesBy 14 = .ok (.invokevirtual 37, 3) := by decide +kernel
theorem dX1_passingCasesBy_17 : decode cX1_passingCasesBy 17 = .ok (.ifCond .eq 12, 3) := by decide +kernel
theorem dX1_passingCasesBy_20 : decode cX1_passingCasesBy 20 = .ok (.iload_n 2, 1) := by decide +kernel
theorem dX1_passingCasesBy_21 : decode cX1_passingCasesBy 21 = .ok (.aload_n 0, 1) := by decide +kernel
theorem dX1_passingCasesBy_22 : decode cX1_passingCasesBy 22 = .ok (.iload_n 3, 1) := by decide +kernel
theorem dX1_passingCasesBy_23 : decode cX1_passingCasesBy 23 = .ok (.iload_n 1, 1) := by decide +kernel
theorem dX1_passingCasesBy_24 : decode cX1_passingCasesBy 24 = .ok (.invokevirtual 49, 3) := by decide +kernel
theorem dX1_passingCasesBy_27 : decode cX1_passingCasesBy 27 = .ok (.iadd, 1) := by decide +kernel
theorem dX1_passingCasesBy_28 : decode cX1_passingCasesBy 28 = .ok (.istore_n 2, 1) := by decide +kernel
theorem dX1_passingCasesBy_29 : decode cX1_passingCasesBy 29 = .ok (.iinc 3 1, 3) := by decide +kernel
theorem dX1_passingCasesBy_32 : decode cX1_passingCasesBy 32 = .ok (.goto (-28), 3) := by decide +kernel
theorem dX1_passingCasesBy_35 : decode cX1_passingCasesBy 35 = .ok (.iload_n 2, 1) := by decide +kernel
theorem dX1_passingCasesBy_36 : decode cX1_passingCasesBy 36 = .ok (.ireturn, 1) := by decide +kernel
theorem dX1_casesOf_0 : decode cX1_casesOf 0 = .ok (.iconst 1, 1) := by decide +kernel
theorem dX1_casesOf_1 : decode cX1_casesOf 1 = .ok (.istore_n 3, 1) := by decide +kernel
theorem dX1_casesOf_2 : decode cX1_casesOf 2 = .ok (.iconst 0, 1) := by decide +kernel
theorem dX1_casesOf_3 : decode cX1_casesOf 3 = .ok (.istore 4, 2) := by decide +kernel
theorem dX1_casesOf_5 : decode cX1_casesOf 5 = .ok (.iload 4, 2) := by decide +kernel
theorem dX1_casesOf_7 : decode cX1_casesOf 7 = .ok (.aload_n 0, 1) := by decide +kernel
theorem dX1_casesOf_8 : decode cX1_casesOf 8 = .ok (.getfield 21, 3) := by decide +kernel
theorem dX1_casesOf_11 : decode cX1_casesOf 11 = .ok (.if_icmp .ge 29, 3) := by decide +kernel
theorem dX1_casesOf_14 : decode cX1_casesOf 14 = .ok (.iload_n 3, 1) := by decide +kernel
theorem dX1_casesOf_15 : decode cX1_casesOf 15 = .ok (.iload_n 1, 1) := by decide +kernel
theorem dX1_casesOf_16 : decode cX1_casesOf 16 = .ok (.iload 4, 2) := by decide +kernel
theorem dX1_casesOf_18 : decode cX1_casesOf 18 = .ok (.invokestatic 29, 3) := by decide +kernel
theorem dX1_casesOf_21 : decode cX1_casesOf 21 = .ok (.ifCond .eq 7, 3) := by decide +kernel
theorem dX1_casesOf_24 : decode cX1_casesOf 24 = .ok (.iload_n 2, 1) := by decide +kernel
theorem dX1_casesOf_25 : decode cX1_casesOf 25 = .ok (.goto 7, 3) := by decide +kernel
theorem dX1_casesOf_28 : decode cX1_casesOf 28 = .ok (.bipush 10, 2) := by decide +kernel
theorem dX1_casesOf_30 : decode cX1_casesOf 30 = .ok (.iload_n 2, 1) := by decide +kernel
theorem dX1_casesOf_31 : decode cX1_casesOf 31 = .ok (.isub, 1) := by decide +kernel
theorem dX1_casesOf_32 : decode cX1_casesOf 32 = .ok (.imul, 1) := by decide +kernel
theorem dX1_casesOf_33 : decode cX1_casesOf 33 = .ok (.istore_n 3, 1) := by decide +kernel
theorem dX1_casesOf_34 : decode cX1_casesOf 34 = .ok (.iinc 4 1, 3) := by decide +kernel
theorem dX1_casesOf_37 : decode cX1_casesOf 37 = .ok (.goto (-32), 3) := by decide +kernel
theorem dX1_casesOf_40 : decode cX1_casesOf 40 = .ok (.iload_n 3, 1) := by decide +kernel
theorem dX1_casesOf_41 : decode cX1_casesOf 41 = .ok (.ireturn, 1) := by decide +kernel
theorem dX2_init_0 : decode cX2_init 0 = .ok (.aload_n 0, 1) := by decide +kernel
theorem dX2_init_1 : decode cX2_init 1 = .ok (.invokespecial 3, 3) := by decide +kernel
theorem dX2_init_4 : decode cX2_init 4 = .ok (.aload_n 0, 1) := by decide +kernel
theorem dX2_init_5 : decode cX2_init 5 = .ok (.bipush 6, 2) := by decide +kernel
theorem dX2_init_7 : decode cX2_init 7 = .ok (.newarray .int, 2) := by decide +kernel
theorem dX2_init_9 : decode cX2_init 9 = .ok (.putfield 9, 3) := by decide +kernel
theorem dX2_init_12 : decode cX2_init 12 = .ok (.aload_n 0, 1) := by decide +kernel
theorem dX2_init_13 : decode cX2_init 13 = .ok (.bipush 6, 2) := by decide +kernel
theorem dX2_init_15 : decode cX2_init 15 = .ok (.newarray .int, 2) := by decide +kernel
theorem dX2_init_17 : decode cX2_init 17 = .ok (.putfield 15, 3) := by decide +kernel
theorem dX2_init_20 : decode cX2_init 20 = .ok (.return_, 1) := by decide +kernel
theorem dX2_clear_0 : decode cX2_clear 0 = .ok (.aload_n 0, 1) := by decide +kernel
theorem dX2_clear_1 : decode cX2_clear 1 = .ok (.iconst 0, 1) := by decide +kernel
theorem dX2_clear_2 : decode cX2_clear 2 = .ok (.putfield 18, 3) := by decide +kernel
theorem dX2_clear_5 : decode cX2_clear 5 = .ok (.return_, 1) := by decide +kernel
theorem dX2_add_0 : decode cX2_add 0 = .ok (.aload_n 0, 1) := by decide +kernel
theorem dX2_add_1 : decode cX2_add 1 = .ok (.getfield 18, 3) := by decide +kernel
theorem dX2_add_4 : decode cX2_add 4 = .ok (.iconst 0, 1) := by decide +kernel
theorem dX2_add_5 : decode cX2_add 5 = .ok (.iconst 5, 1) := by decide +kernel
theorem dX2_add_6 : decode cX2_add 6 = .ok (.invokestatic 22, 3) := by decide +kernel
theorem dX2_add_9 : decode cX2_add 9 = .ok (.ifCond .eq 5, 3) := by decide +kernel
theorem dX2_add_12 : decode cX2_add 12 = .ok (.iconst 0, 1) := by decide +kernel
theorem dX2_add_13 : decode cX2_add 13 = .ok (.ireturn, 1) := by decide +kernel
theorem dX2_add_14 : decode cX2_add 14 = .ok (.aload_n 0, 1) := by decide +kernel
theorem dX2_add_15 : decode cX2_add 15 = .ok (.getfield 9, 3) := by decide +kernel
theorem dX2_add_18 : decode cX2_add 18 = .ok (.aload_n 0, 1) := by decide +kernel
theorem dX2_add_19 : decode cX2_add 19 = .ok (.getfield 18, 3) := by decide +kernel
theorem dX2_add_22 : decode cX2_add 22 = .ok (.iload_n 1, 1) := by decide +kernel
theorem dX2_add_23 : decode cX2_add 23 = .ok (.iastore, 1) := by decide +kernel
theorem dX2_add_24 : decode cX2_add 24 = .ok (.aload_n 0, 1) := by decide +kernel
theorem dX2_add_25 : decode cX2_add 25 = .ok (.getfield 15, 3) := by decide +kernel
theorem dX2_add_28 : decode cX2_add 28 = .ok (.aload_n 0, 1) := by decide +kernel
theorem dX2_add_29 : decode cX2_add 29 = .ok (.getfield 18, 3) := by decide +kernel
theorem dX2_add_32 : decode cX2_add 32 = .ok (.iload_n 2, 1) := by decide +kernel
theorem dX2_add_33 : decode cX2_add 33 = .ok (.iastore, 1) := by decide +kernel
theorem dX2_add_34 : decode cX2_add 34 = .ok (.aload_n 0, 1) := by decide +kernel
theorem dX2_add_35 : decode cX2_add 35 = .ok (.dup, 1) := by decide +kernel
theorem dX2_add_36 : decode cX2_add 36 = .ok (.getfield 18, 3) := by decide +kernel
theorem dX2_add_39 : decode cX2_add 39 = .ok (.iconst 1, 1) := by decide +kernel
theorem dX2_add_40 : decode cX2_add 40 = .ok (.iadd, 1) := by decide +kernel
theorem dX2_add_41 : decode cX2_add 41 = .ok (.putfield 18, 3) := by decide +kernel
theorem dX2_add_44 : decode cX2_add 44 = .ok (.iconst 1, 1) := by decide +kernel
theorem dX2_add_45 : decode cX2_add 45 = .ok (.ireturn, 1) := by decide +kernel
theorem dX2_allSoBetween_0 : decode cX2_allSoBetween 0 = .ok (.iconst 0, 1) := by decide +kernel
theorem dX2_allSoBetween_1 : decode cX2_allSoBetween 1 = .ok (.istore_n 3, 1) := by decide +kernel
theorem dX2_allSoBetween_2 : decode cX2_allSoBetween 2 = .ok (.iload_n 3, 1) := by decide +kernel
theorem dX2_allSoBetween_3 : decode cX2_allSoBetween 3 = .ok (.aload_n 0, 1) := by decide +kernel
theorem dX2_allSoBetween_4 : decode cX2_allSoBetween 4 = .ok (.getfield 18, 3) := by decide +kernel
theorem dX2_allSoBetween_7 : decode cX2_allSoBetween 7 = .ok (.if_icmp .ge 43, 3) := by decide +kernel
theorem dX2_allSoBetween_10 : decode cX2_allSoBetween 10 = .ok (.aload_n 0, 1) := by decide +kernel
theorem dX2_allSoBetween_11 : decode cX2_allSoBetween 11 = .ok (.getfield 9, 3) := by decide +kernel
theorem dX2_allSoBetween_14 : decode cX2_allSoBetween 14 = .ok (.iload_n 3, 1) := by decide +kernel
theorem dX2_allSoBetween_15 : decode cX2_allSoBetween 15 = .ok (.iaload, 1) := by decide +kernel
theorem dX2_allSoBetween_16 : decode cX2_allSoBetween 16 = .ok (.istore 4, 2) := by decide +kernel
theorem dX2_allSoBetween_18 : decode cX2_allSoBetween 18 = .ok (.aload_n 2, 1) := by decide +kernel
theorem dX2_allSoBetween_19 : decode cX2_allSoBetween 19 = .ok (.getfield 26, 3) := by decide +kernel
theorem dX2_allSoBetween_22 : decode cX2_allSoBetween 22 = .ok (.iload 4, 2) := by decide +kernel
theorem dX2_allSoBetween_24 : decode cX2_allSoBetween 24 = .ok (.iaload, 1) := by decide +kernel
theorem dX2_allSoBetween_25 : decode cX2_allSoBetween 25 = .ok (.aload_n 1, 1) := by decide +kernel
theorem dX2_allSoBetween_26 : decode cX2_allSoBetween 26 = .ok (.getfield 26, 3) := by decide +kernel
theorem dX2_allSoBetween_29 : decode cX2_allSoBetween 29 = .ok (.iload 4, 2) := by decide +kernel
theorem dX2_allSoBetween_31 : decode cX2_allSoBetween 31 = .ok (.iaload, 1) := by decide +kernel
theorem dX2_allSoBetween_32 : decode cX2_allSoBetween 32 = .ok (.isub, 1) := by decide +kernel
theorem dX2_allSoBetween_33 : decode cX2_allSoBetween 33 = .ok (.aload_n 0, 1) := by decide +kernel
theorem dX2_allSoBetween_34 : decode cX2_allSoBetween 34 = .ok (.getfield 15, 3) := by decide +kernel
theorem dX2_allSoBetween_37 : decode cX2_allSoBetween 37 = .ok (.iload_n 3, 1) := by decide +kernel
theorem dX2_allSoBetween_38 : decode cX2_allSoBetween 38 = .ok (.iaload, 1) := by decide +kernel
theorem dX2_allSoBetween_39 : decode cX2_allSoBetween 39 = .ok (.if_icmp .eq 5, 3) := by decide +kernel
theorem dX2_allSoBetween_42 : decode cX2_allSoBetween 42 = .ok (.iconst 0, 1) := by decide +kernel
theorem dX2_allSoBetween_43 : decode cX2_allSoBetween 43 = .ok (.ireturn, 1) := by decide +kernel
theorem dX2_allSoBetween_44 : decode cX2_allSoBetween 44 = .ok (.iinc 3 1, 3) := by decide +kernel
theorem dX2_allSoBetween_47 : decode cX2_allSoBetween 47 = .ok (.goto (-45), 3) := by decide +kernel
theorem dX2_allSoBetween_50 : decode cX2_allSoBetween 50 = .ok (.iconst 1, 1) := by decide +kernel
theorem dX2_allSoBetween_51 : decode cX2_allSoBetween 51 = .ok (.ireturn, 1) := by decide +kernel
end
section
theorem dX4_init_0 : decode cX4_init 0 = .ok (.aload_n 0, 1) := by decide +kernel
theorem dX4_init_1 : decode cX4_init 1 = .ok (.invokespecial 3, 3) := by decide +kernel
theorem dX4_init_4 : decode cX4_init 4 = .ok (.aload_n 0, 1) := by decide +kernel
theorem dX4_init_5 : decode cX4_init 5 = .ok (.sipush 200, 3) := by decide +kernel
theorem dX4_init_8 : decode cX4_init 8 = .ok (.newarray .char, 2) := by decide +kernel
theorem dX4_init_10 : decode cX4_init 10 = .ok (.putfield 9, 3) := by decide +kernel
theorem dX4_init_13 : decode cX4_init 13 = .ok (.aload_n 0, 1) := by decide +kernel
theorem dX4_init_14 : decode cX4_init 14 = .ok (.iconst 4, 1) := by decide +kernel
theorem dX4_init_15 : decode cX4_init 15 = .ok (.newarray .int, 2) := by decide +kernel
theorem dX4_init_17 : decode cX4_init 17 = .ok (.putfield 15, 3) := by decide +kernel
theorem dX4_init_20 : decode cX4_init 20 = .ok (.return_, 1) := by decide +kernel
theorem dX4_clear_0 : decode cX4_clear 0 = .ok (.aload_n 0, 1) := by decide +kernel
theorem dX4_clear_1 : decode cX4_clear 1 = .ok (.iconst 0, 1) := by decide +kernel
theorem dX4_clear_2 : decode cX4_clear 2 = .ok (.putfield 19, 3) := by decide +kernel
theorem dX4_clear_5 : decode cX4_clear 5 = .ok (.return_, 1) := by decide +kernel
theorem dX4_append_0 : decode cX4_append 0 = .ok (.aload_n 0, 1) := by decide +kernel
theorem dX4_append_1 : decode cX4_append 1 = .ok (.getfield 19, 3) := by decide +kernel
theorem dX4_append_4 : decode cX4_append 4 = .ok (.ifCond .lt 15, 3) := by decide +kernel
theorem dX4_append_7 : decode cX4_append 7 = .ok (.aload_n 0, 1) := by decide +kernel
theorem dX4_append_8 : decode cX4_append 8 = .ok (.getfield 19, 3) := by decide +kernel
theorem dX4_append_11 : decode cX4_append 11 = .ok (.aload_n 0, 1) := by decide +kernel
theorem dX4_append_12 : decode cX4_append 12 = .ok (.getfield 9, 3) := by decide +kernel
theorem dX4_append_15 : decode cX4_append 15 = .ok (.arraylength, 1) := by decide +kernel
theorem dX4_append_16 : decode cX4_append 16 = .ok (.if_icmp .lt 5, 3) := by decide +kernel
theorem dX4_append_19 : decode cX4_append 19 = .ok (.iconst 0, 1) := by decide +kernel
theorem dX4_append_20 : decode cX4_append 20 = .ok (.ireturn, 1) := by decide +kernel
theorem dX4_append_21 : decode cX4_append 21 = .ok (.aload_n 0, 1) := by decide +kernel
theorem dX4_append_22 : decode cX4_append 22 = .ok (.getfield 9, 3) := by decide +kernel
theorem dX4_append_25 : decode cX4_append 25 = .ok (.aload_n 0, 1) := by decide +kernel
theorem dX4_append_26 : decode cX4_append 26 = .ok (.getfield 19, 3) := by decide +kernel
theorem dX4_append_29 : decode cX4_append 29 = .ok (.iload_n 1, 1) := by decide +kernel
theorem dX4_append_30 : decode cX4_append 30 = .ok (.castore, 1) := by decide +kernel
theorem dX4_append_31 : decode cX4_append 31 = .ok (.aload_n 0, 1) := by decide +kernel
theorem dX4_append_32 : decode cX4_append 32 = .ok (.dup, 1) := by decide +kernel
theorem dX4_append_33 : decode cX4_append 33 = .ok (.getfield 19, 3) := by decide +kernel
theorem dX4_append_36 : decode cX4_append 36 = .ok (.iconst 1, 1) := by decide +kernel
theorem dX4_append_37 : decode cX4_append 37 = .ok (.iadd, 1) := by decide +kernel
theorem dX4_append_38 : decode cX4_append 38 = .ok (.putfield 19, 3) := by decide +kernel
theorem dX4_append_41 : decode cX4_append 41 = .ok (.iconst 1, 1) := by decide +kernel
theorem dX4_append_42 : decode cX4_append 42 = .ok (.ireturn, 1) := by decide +kernel
theorem dX4_layOut_0 : decode cX4_layOut 0 = .ok (.aload_n 1, 1) := by decide +kernel
theorem dX4_layOut_1 : decode cX4_layOut 1 = .ok (.invokevirtual 23, 3) := by decide +kernel
theorem dX4_layOut_4 : decode cX4_layOut 4 = .ok (.iconst 0, 1) := by decide +kernel
theorem dX4_layOut_5 : decode cX4_layOut 5 = .ok (.istore_n 2, 1) := by decide +kernel
theorem dX4_layOut_6 : decode cX4_layOut 6 = .ok (.iconst 0, 1) := by decide +kernel
theorem dX4_layOut_7 : decode cX4_layOut 7 = .ok (.istore_n 3, 1) := by decide +kernel
theorem dX4_layOut_8 : decode cX4_layOut 8 = .ok (.iload_n 3, 1) := by decide +kernel
theorem dX4_layOut_9 : decode cX4_layOut 9 = .ok (.sipush 200, 3) := by decide +kernel
theorem dX4_layOut_12 : decode cX4_layOut 12 = .ok (.if_icmp .ge 48, 3) := by decide +kernel
theorem dX4_layOut_15 : decode cX4_layOut 15 = .ok (.iload_n 2, 1) := by decide +kernel
theorem dX4_layOut_16 : decode cX4_layOut 16 = .ok (.aload_n 0, 1) := by decide +kernel
theorem dX4_layOut_17 : decode cX4_layOut 17 = .ok (.getfield 19, 3) := by decide +kernel
theorem dX4_layOut_20 : decode cX4_layOut 20 = .ok (.if_icmp .ge 40, 3) := by decide +kernel
theorem dX4_layOut_23 : decode cX4_layOut 23 = .ok (.aload_n 0, 1) := by decide +kernel
theorem dX4_layOut_24 : decode cX4_layOut 24 = .ok (.iload_n 2, 1) := by decide +kernel
theorem dX4_layOut_25 : decode cX4_layOut 25 = .ok (.invokevirtual 28, 3) := by decide +kernel
theorem dX4_layOut_28 : decode cX4_layOut 28 = .ok (.istore 4, 2) := by decide +kernel
theorem dX4_layOut_30 : decode cX4_layOut 30 = .ok (.iload 4, 2) := by decide +kernel
theorem dX4_layOut_32 : decode cX4_layOut 32 = .ok (.iconst (-1), 1) := by decide +kernel
theorem dX4_layOut_33 : decode cX4_layOut 33 = .ok (.if_icmp .eq 16, 3) := by decide +kernel
theorem dX4_layOut_36 : decode cX4_layOut 36 = .ok (.aload_n 0, 1) := by decide +kernel
theorem dX4_layOut_37 : decode cX4_layOut 37 = .ok (.aload_n 0, 1) := by decide +kernel
theorem dX4_layOut_38 : decode cX4_layOut 38 = .ok (.iload_n 2, 1) := by decide +kernel
theorem dX4_layOut_39 : decode cX4_layOut 39 = .ok (.invokevirtual 32, 3) := by decide +kernel
theorem dX4_layOut_42 : decode cX4_layOut 42 = .ok (.aload_n 1, 1) := by decide +kernel
theorem dX4_layOut_43 : decode cX4_layOut 43 = .ok (.invokevirtual 36, 3) := by decide +kernel
theorem dX4_layOut_46 : decode cX4_layOut 46 = .ok (.ifCond .ne 5, 3) := by decide +kernel
theorem dX4_layOut_49 : decode cX4_layOut 49 = .ok (.iload_n 2, 1) := by decide +kernel
theorem dX4_layOut_50 : decode cX4_layOut 50 = .ok (.ireturn, 1) := by decide +kernel
theorem dX4_layOut_51 : decode cX4_layOut 51 = .ok (.iload 4, 2) := by decide +kernel
theorem dX4_layOut_53 : decode cX4_layOut 53 = .ok (.istore_n 2, 1) := by decide +kernel
theorem dX4_layOut_54 : decode cX4_layOut 54 = .ok (.iinc 3 1, 3) := by decide +kernel
theorem dX4_layOut_57 : decode cX4_layOut 57 = .ok (.goto (-49), 3) := by decide +kernel
theorem dX4_layOut_60 : decode cX4_layOut 60 = .ok (.bipush (-4), 2) := by decide +kernel
theorem dX4_layOut_62 : decode cX4_layOut 62 = .ok (.ireturn, 1) := by decide +kernel
theorem dX4_readItem_0 : decode cX4_readItem 0 = .ok (.aload_n 0, 1) := by decide +kernel
theorem dX4_readItem_1 : decode cX4_readItem 1 = .ok (.iload_n 1, 1) := by decide +kernel
theorem dX4_readItem_2 : decode cX4_readItem 2 = .ok (.invokevirtual 32, 3) := by decide +kernel
theorem dX4_readItem_5 : decode cX4_readItem 5 = .ok (.invokestatic 40, 3) := by decide +kernel
theorem dX4_readItem_8 : decode cX4_readItem 8 = .ok (.istore_n 2, 1) := by decide +kernel
theorem dX4_readItem_9 : decode cX4_readItem 9 = .ok (.iload_n 1, 1) := by decide +kernel
theorem dX4_readItem_10 : decode cX4_readItem 10 = .ok (.iconst 1, 1) := by decide +kernel
theorem dX4_readItem_11 : decode cX4_readItem 11 = .ok (.iadd, 1) := by decide +kernel
theorem dX4_readItem_12 : decode cX4_readItem 12 = .ok (.istore_n 3, 1) := by decide +kernel
theorem dX4_readItem_13 : decode cX4_readItem 13 = .ok (.iconst 0, 1) := by decide +kernel
theorem dX4_readItem_14 : decode cX4_readItem 14 = .ok (.istore 4, 2) := by decide +kernel
theorem dX4_readItem_16 : decode cX4_readItem 16 = .ok (.iload 4, 2) := by decide +kernel
theorem dX4_readItem_18 : decode cX4_readItem 18 = .ok (.iload_n 2, 1) := by decide +kernel
theorem dX4_readItem_19 : decode cX4_readItem 19 = .ok (.if_icmp .ge 107, 3) := by decide +kernel
theorem dX4_readItem_22 : decode cX4_readItem 22 = .ok (.iload 4, 2) := by decide +kernel
theorem dX4_readItem_24 : decode cX4_readItem 24 = .ok (.aload_n 0, 1) := by decide +kernel
theorem dX4_readItem_25 : decode cX4_readItem 25 = .ok (.getfield 15, 3) := by decide +kernel
theorem dX4_readItem_28 : decode cX4_readItem 28 = .ok (.arraylength, 1) := by decide +kernel
theorem dX4_readItem_29 : decode cX4_readItem 29 = .ok (.if_icmp .ge 97, 3) := by decide +kernel
theorem dX4_readItem_32 : decode cX4_readItem 32 = .ok (.aload_n 0, 1) := by decide +kernel
theorem dX4_readItem_33 : decode cX4_readItem 33 = .ok (.iload_n 3, 1) := by decide +kernel
theorem dX4_readItem_34 : decode cX4_readItem 34 = .ok (.invokevirtual 44, 3) := by decide +kernel
theorem dX4_readItem_37 : decode cX4_readItem 37 = .ok (.istore 5, 2) := by decide +kernel
theorem dX4_readItem_39 : decode cX4_readItem 39 = .ok (.iload 5, 2) := by decide +kernel
theorem dX4_readItem_41 : decode cX4_readItem 41 = .ok (.ifCond .ne 5, 3) := by decide +kernel
theorem dX4_readItem_44 : decode cX4_readItem 44 = .ok (.iconst (-1), 1) := by decide +kernel
theorem dX4_readItem_45 : decode cX4_readItem 45 = .ok (.ireturn, 1) := by decide +kernel
theorem dX4_readItem_46 : decode cX4_readItem 46 = .ok (.aload_n 0, 1) := by decide +kernel
theorem dX4_readItem_47 : decode cX4_readItem 47 = .ok (.getfield 15, 3) := by decide +kernel
theorem dX4_readItem_50 : decode cX4_readItem 50 = .ok (.iload 4, 2) := by decide +kernel
theorem dX4_readItem_52 : decode cX4_readItem 52 = .ok (.iload 5, 2) := by decide +kernel
theorem dX4_readItem_54 : decode cX4_readItem 54 = .ok (.iconst 1, 1) := by decide +kernel
theorem dX4_readItem_55 : decode cX4_readItem 55 = .ok (.if_icmp .ne 11, 3) := by decide +kernel
theorem dX4_readItem_58 : decode cX4_readItem 58 = .ok (.aload_n 0, 1) := by decide +kernel
theorem dX4_readItem_59 : decode cX4_readItem 59 = .ok (.iload_n 3, 1) := by decide +kernel
theorem dX4_readItem_60 : decode cX4_readItem 60 = .ok (.invokevirtual 47, 3) := by decide +kernel
theorem dX4_readItem_63 : decode cX4_readItem 63 = .ok (.goto 19, 3) := by decide +kernel
theorem dX4_readItem_66 : decode cX4_readItem 66 = .ok (.bipush 10, 2) := by decide +kernel
theorem dX4_readItem_68 : decode cX4_readItem 68 = .ok (.aload_n 0, 1) := by decide +kernel
theorem dX4_readItem_69 : decode cX4_readItem 69 = .ok (.iload_n 3, 1) := by decide +kernel
theorem dX4_readItem_70 : decode cX4_readItem 70 = .ok (.invokevirtual 47, 3) := by decide +kernel
theorem dX4_readItem_73 : decode cX4_readItem 73 = .ok (.imul, 1) := by decide +kernel
theorem dX4_readItem_74 : decode cX4_readItem 74 = .ok (.aload_n 0, 1) := by decide +kernel
theorem dX4_readItem_75 : decode cX4_readItem 75 = .ok (.iload_n 3, 1) := by decide +kernel
theorem dX4_readItem_76 : decode cX4_readItem 76 = .ok (.iconst 1, 1) := by decide +kernel
theorem dX4_readItem_77 : decode cX4_readItem 77 = .ok (.iadd, 1) := by decide +kernel
theorem dX4_readItem_78 : decode cX4_readItem 78 = .ok (.invokevirtual 47, 3) := by decide +kernel
theorem dX4_readItem_81 : decode cX4_readItem 81 = .ok (.iadd, 1) := by decide +kernel
theorem dX4_readItem_82 : decode cX4_readItem 82 = .ok (.iastore, 1) := by decide +kernel
theorem dX4_readItem_83 : decode cX4_readItem 83 = .ok (.iload_n 3, 1) := by decide +kernel
theorem dX4_readItem_84 : decode cX4_readItem 84 = .ok (.iload 5, 2) := by decide +kernel
theorem dX4_readItem_86 : decode cX4_readItem 86 = .ok (.iadd, 1) := by decide +kernel
theorem dX4_readItem_87 : decode cX4_readItem 87 = .ok (.istore_n 3, 1) := by decide +kernel
theorem dX4_readItem_88 : decode cX4_readItem 88 = .ok (.iload 4, 2) := by decide +kernel
theorem dX4_readItem_90 : decode cX4_readItem 90 = .ok (.iconst 1, 1) := by decide +kernel
theorem dX4_readItem_91 : decode cX4_readItem 91 = .ok (.iadd, 1) := by decide +kernel
theorem dX4_readItem_92 : decode cX4_readItem 92 = .ok (.iload_n 2, 1) := by decide +kernel
theorem dX4_readItem_93 : decode cX4_readItem 93 = .ok (.if_icmp .ge 8, 3) := by decide +kernel
theorem dX4_readItem_96 : decode cX4_readItem 96 = .ok (.bipush 44, 2) := by decide +kernel
theorem dX4_readItem_98 : decode cX4_readItem 98 = .ok (.goto 5, 3) := by decide +kernel
theorem dX4_readItem_101 : decode cX4_readItem 101 = .ok (.bipush 59, 2) := by decide +kernel
theorem dX4_readItem_103 : decode cX4_readItem 103 = .ok (.istore 6, 2) := by decide +kernel
theorem dX4_readItem_105 : decode cX4_readItem 105 = .ok (.aload_n 0, 1) := by decide +kernel
theorem dX4_readItem_106 : decode cX4_readItem 106 = .ok (.iload_n 3, 1) := by decide +kernel
theorem dX4_readItem_107 : decode cX4_readItem 107 = .ok (.invokevirtual 32, 3) := by decide +kernel
theorem dX4_readItem_110 : decode cX4_readItem 110 = .ok (.iload 6, 2) := by decide +kernel
theorem dX4_readItem_112 : decode cX4_readItem 112 = .ok (.if_icmp .eq 5, 3) := by decide +kernel
theorem dX4_readItem_115 : decode cX4_readItem 115 = .ok (.iconst (-1), 1) := by decide +kernel
theorem dX4_readItem_116 : decode cX4_readItem 116 = .ok (.ireturn, 1) := by decide +kernel
theorem dX4_readItem_117 : decode cX4_readItem 117 = .ok (.iinc 3 1, 3) := by decide +kernel
theorem dX4_readItem_120 : decode cX4_readItem 120 = .ok (.iinc 4 1, 3) := by decide +kernel
theorem dX4_readItem_123 : decode cX4_readItem 123 = .ok (.goto (-107), 3) := by decide +kernel
theorem dX4_readItem_126 : decode cX4_readItem 126 = .ok (.iload_n 2, 1) := by decide +kernel
theorem dX4_readItem_127 : decode cX4_readItem 127 = .ok (.ifCond .ne 7, 3) := by decide +kernel
theorem dX4_readItem_130 : decode cX4_readItem 130 = .ok (.iconst (-1), 1) := by decide +kernel
theorem dX4_readItem_131 : decode cX4_readItem 131 = .ok (.goto 4, 3) := by decide +kernel
theorem dX4_readItem_134 : decode cX4_readItem 134 = .ok (.iload_n 3, 1) := by decide +kernel
theorem dX4_readItem_135 : decode cX4_readItem 135 = .ok (.ireturn, 1) := by decide +kernel
theorem dX4_isTaken_0 : decode cX4_isTaken 0 = .ok (.iload_n 1, 1) := by decide +kernel
theorem dX4_isTaken_1 : decode cX4_isTaken 1 = .ok (.bipush 109, 2) := by decide +kernel
theorem dX4_isTaken_3 : decode cX4_isTaken 3 = .ok (.if_icmp .ne 32, 3) := by decide +kernel
theorem dX4_isTaken_6 : decode cX4_isTaken 6 = .ok (.aload_n 2, 1) := by decide +kernel
theorem dX4_isTaken_7 : decode cX4_isTaken 7 = .ok (.aload_n 0, 1) := by decide +kernel
theorem dX4_isTaken_8 : decode cX4_isTaken 8 = .ok (.getfield 15, 3) := by decide +kernel
theorem dX4_isTaken_11 : decode cX4_isTaken 11 = .ok (.iconst 0, 1) := by decide +kernel
theorem dX4_isTaken_12 : decode cX4_isTaken 12 = .ok (.iaload, 1) := by decide +kernel
theorem dX4_isTaken_13 : decode cX4_isTaken 13 = .ok (.aload_n 0, 1) := by decide +kernel
theorem dX4_isTaken_14 : decode cX4_isTaken 14 = .ok (.getfield 15, 3) := by decide +kernel
theorem dX4_isTaken_17 : decode cX4_isTaken 17 = .ok (.iconst 1, 1) := by decide +kernel
theorem dX4_isTaken_18 : decode cX4_isTaken 18 = .ok (.iaload, 1) := by decide +kernel
theorem dX4_isTaken_19 : decode cX4_isTaken 19 = .ok (.aload_n 0, 1) := by decide +kernel
theorem dX4_isTaken_20 : decode cX4_isTaken 20 = .ok (.getfield 15, 3) := by decide +kernel
theorem dX4_isTaken_23 : decode cX4_isTaken 23 = .ok (.iconst 2, 1) := by decide +kernel
theorem dX4_isTaken_24 : decode cX4_isTaken 24 = .ok (.iaload, 1) := by decide +kernel
theorem dX4_isTaken_25 : decode cX4_isTaken 25 = .ok (.aload_n 0, 1) := by decide +kernel
theorem dX4_isTaken_26 : decode cX4_isTaken 26 = .ok (.getfield 15, 3) := by decide +kernel
theorem dX4_isTaken_29 : decode cX4_isTaken 29 = .ok (.iconst 3, 1) := by decide +kernel
theorem dX4_isTaken_30 : decode cX4_isTaken 30 = .ok (.iaload, 1) := by decide +kernel
theorem dX4_isTaken_31 : decode cX4_isTaken 31 = .ok (.invokevirtual 50, 3) := by decide +kernel
theorem dX4_isTaken_34 : decode cX4_isTaken 34 = .ok (.ireturn, 1) := by decide +kernel
theorem dX4_isTaken_35 : decode cX4_isTaken 35 = .ok (.iload_n 1, 1) := by decide +kernel
theorem dX4_isTaken_36 : decode cX4_isTaken 36 = .ok (.bipush 112, 2) := by decide +kernel
theorem dX4_isTaken_38 : decode cX4_isTaken 38 = .ok (.if_icmp .ne 26, 3) := by decide +kernel
theorem dX4_isTaken_41 : decode cX4_isTaken 41 = .ok (.aload_n 2, 1) := by decide +kernel
theorem dX4_isTaken_42 : decode cX4_isTaken 42 = .ok (.aload_n 0, 1) := by decide +kernel
theorem dX4_isTaken_43 : decode cX4_isTaken 43 = .ok (.getfield 15, 3) := by decide +kernel
theorem dX4_isTaken_46 : decode cX4_isTaken 46 = .ok (.iconst 0, 1) := by decide +kernel
theorem dX4_isTaken_47 : decode cX4_isTaken 47 = .ok (.iaload, 1) := by decide +kernel
theorem dX4_isTaken_48 : decode cX4_isTaken 48 = .ok (.aload_n 0, 1) := by decide +kernel
theorem dX4_isTaken_49 : decode cX4_isTaken 49 = .ok (.getfield 15, 3) := by decide +kernel
theorem dX4_isTaken_52 : decode cX4_isTaken 52 = .ok (.iconst 1, 1) := by decide +kernel
theorem dX4_isTaken_53 : decode cX4_isTaken 53 = .ok (.iaload, 1) := by decide +kernel
theorem dX4_isTaken_54 : decode cX4_isTaken 54 = .ok (.aload_n 0, 1) := by decide +kernel
theorem dX4_isTaken_55 : decode cX4_isTaken 55 = .ok (.getfield 15, 3) := by decide +kernel
theorem dX4_isTaken_58 : decode cX4_isTaken 58 = .ok (.iconst 2, 1) := by decide +kernel
theorem dX4_isTaken_59 : decode cX4_isTaken 59 = .ok (.iaload, 1) := by decide +kernel
theorem dX4_isTaken_60 : decode cX4_isTaken 60 = .ok (.invokevirtual 54, 3) := by decide +kernel
theorem dX4_isTaken_63 : decode cX4_isTaken 63 = .ok (.ireturn, 1) := by decide +kernel
theorem dX4_isTaken_64 : decode cX4_isTaken 64 = .ok (.iload_n 1, 1) := by decide +kernel
theorem dX4_isTaken_65 : decode cX4_isTaken 65 = .ok (.bipush 114, 2) := by decide +kernel
theorem dX4_isTaken_67 : decode cX4_isTaken 67 = .ok (.if_icmp .ne 14, 3) := by decide +kernel
theorem dX4_isTaken_70 : decode cX4_isTaken 70 = .ok (.aload_n 2, 1) := by decide +kernel
theorem dX4_isTaken_71 : decode cX4_isTaken 71 = .ok (.aload_n 0, 1) := by decide +kernel
theorem dX4_isTaken_72 : decode cX4_isTaken 72 = .ok (.getfield 15, 3) := by decide +kernel
theorem dX4_isTaken_75 : decode cX4_isTaken 75 = .ok (.iconst 0, 1) := by decide +kernel
theorem dX4_isTaken_76 : decode cX4_isTaken 76 = .ok (.iaload, 1) := by decide +kernel
theorem dX4_isTaken_77 : decode cX4_isTaken 77 = .ok (.invokevirtual 58, 3) := by decide +kernel
theorem dX4_isTaken_80 : decode cX4_isTaken 80 = .ok (.ireturn, 1) := by decide +kernel
theorem dX4_isTaken_81 : decode cX4_isTaken 81 = .ok (.iload_n 1, 1) := by decide +kernel
theorem dX4_isTaken_82 : decode cX4_isTaken 82 = .ok (.bipush 102, 2) := by decide +kernel
theorem dX4_isTaken_84 : decode cX4_isTaken 84 = .ok (.if_icmp .ne 20, 3) := by decide +kernel
theorem dX4_isTaken_87 : decode cX4_isTaken 87 = .ok (.aload_n 2, 1) := by decide +kernel
theorem dX4_isTaken_88 : decode cX4_isTaken 88 = .ok (.aload_n 0, 1) := by decide +kernel
theorem dX4_isTaken_89 : decode cX4_isTaken 89 = .ok (.getfield 15, 3) := by decide +kernel
theorem dX4_isTaken_92 : decode cX4_isTaken 92 = .ok (.iconst 0, 1) := by decide +kernel
theorem dX4_isTaken_93 : decode cX4_isTaken 93 = .ok (.iaload, 1) := by decide +kernel
theorem dX4_isTaken_94 : decode cX4_isTaken 94 = .ok (.invokevirtual 62, 3) := by decide +kernel
theorem dX4_isTaken_97 : decode cX4_isTaken 97 = .ok (.ifCond .eq 7, 3) := by decide +kernel
theorem dX4_isTaken_100 : decode cX4_isTaken 100 = .ok (.iconst 1, 1) := by decide +kernel
theorem dX4_isTaken_101 : decode cX4_isTaken 101 = .ok (.goto 4, 3) := by decide +kernel
theorem dX4_isTaken_104 : decode cX4_isTaken 104 = .ok (.iconst 0, 1) := by decide +kernel
theorem dX4_isTaken_105 : decode cX4_isTaken 105 = .ok (.ireturn, 1) := by decide +kernel
theorem dX4_numbersBehind_0 : decode cX4_numbersBehind 0 = .ok (.iload_n 0, 1) := by decide +kernel
theorem dX4_numbersBehind_1 : decode cX4_numbersBehind 1 = .ok (.bipush 109, 2) := by decide +kernel
theorem dX4_numbersBehind_3 : decode cX4_numbersBehind 3 = .ok (.if_icmp .ne 5, 3) := by decide +kernel
theorem dX4_numbersBehind_6 : decode cX4_numbersBehind 6 = .ok (.iconst 4, 1) := by decide +kernel
theorem dX4_numbersBehind_7 : decode cX4_numbersBehind 7 = .ok (.ireturn, 1) := by decide +kernel
theorem dX4_numbersBehind_8 : decode cX4_numbersBehind 8 = .ok (.iload_n 0, 1) := by decide +kernel
theorem dX4_numbersBehind_9 : decode cX4_numbersBehind 9 = .ok (.bipush 112, 2) := by decide +kernel
theorem dX4_numbersBehind_11 : decode cX4_numbersBehind 11 = .ok (.if_icmp .ne 5, 3) := by decide +kernel
theorem dX4_numbersBehind_14 : decode cX4_numbersBehind 14 = .ok (.iconst 3, 1) := by decide +kernel
theorem dX4_numbersBehind_15 : decode cX4_numbersBehind 15 = .ok (.ireturn, 1) := by decide +kernel
theorem dX4_numbersBehind_16 : decode cX4_numbersBehind 16 = .ok (.iload_n 0, 1) := by decide +kernel
theorem dX4_numbersBehind_17 : decode cX4_numbersBehind 17 = .ok (.bipush 114, 2) := by decide +kernel
theorem dX4_numbersBehind_19 : decode cX4_numbersBehind 19 = .ok (.if_icmp .eq 9, 3) := by decide +kernel
theorem dX4_numbersBehind_22 : decode cX4_numbersBehind 22 = .ok (.iload_n 0, 1) := by decide +kernel
theorem dX4_numbersBehind_23 : decode cX4_numbersBehind 23 = .ok (.bipush 102, 2) := by decide +kernel
theorem dX4_numbersBehind_25 : decode cX4_numbersBehind 25 = .ok (.if_icmp .ne 7, 3) := by decide +kernel
theorem dX4_numbersBehind_28 : decode cX4_numbersBehind 28 = .ok (.iconst 1, 1) := by decide +kernel
theorem dX4_numbersBehind_29 : decode cX4_numbersBehind 29 = .ok (.goto 4, 3) := by decide +kernel
theorem dX4_numbersBehind_32 : decode cX4_numbersBehind 32 = .ok (.iconst 0, 1) := by decide +kernel
theorem dX4_numbersBehind_33 : decode cX4_numbersBehind 33 = .ok (.ireturn, 1) := by decide +kernel
theorem dX4_figuresAt_0 : decode cX4_figuresAt 0 = .ok (.aload_n 0, 1) := by decide +kernel
theorem dX4_figuresAt_1 : decode cX4_figuresAt 1 = .ok (.iload_n 1, 1) := by decide +kernel
theorem dX4_figuresAt_2 : decode cX4_figuresAt 2 = .ok (.invokevirtual 65, 3) := by decide +kernel
theorem dX4_figuresAt_5 : decode cX4_figuresAt 5 = .ok (.ifCond .ne 5, 3) := by decide +kernel
theorem dX4_figuresAt_8 : decode cX4_figuresAt 8 = .ok (.iconst 0, 1) := by decide +kernel
theorem dX4_figuresAt_9 : decode cX4_figuresAt 9 = .ok (.ireturn, 1) := by decide +kernel
theorem dX4_figuresAt_10 : decode cX4_figuresAt 10 = .ok (.aload_n 0, 1) := by decide +kernel
theorem dX4_figuresAt_11 : decode cX4_figuresAt 11 = .ok (.iload_n 1, 1) := by decide +kernel
theorem dX4_figuresAt_12 : decode cX4_figuresAt 12 = .ok (.iconst 1, 1) := by decide +kernel
theorem dX4_figuresAt_13 : decode cX4_figuresAt 13 = .ok (.iadd, 1) := by decide +kernel
theorem dX4_figuresAt_14 : decode cX4_figuresAt 14 = .ok (.invokevirtual 65, 3) := by decide +kernel
theorem dX4_figuresAt_17 : decode cX4_figuresAt 17 = .ok (.ifCond .eq 7, 3) := by decide +kernel
theorem dX4_figuresAt_20 : decode cX4_figuresAt 20 = .ok (.iconst 2, 1) := by decide +kernel
theorem dX4_figuresAt_21 : decode cX4_figuresAt 21 = .ok (.goto 4, 3) := by decide +kernel
theorem dX4_figuresAt_24 : decode cX4_figuresAt 24 = .ok (.iconst 1, 1) := by decide +kernel
theorem dX4_figuresAt_25 : decode cX4_figuresAt 25 = .ok (.ireturn, 1) := by decide +kernel
theorem dX4_isFigure_0 : decode cX4_isFigure 0 = .ok (.aload_n 0, 1) := by decide +kernel
theorem dX4_isFigure_1 : decode cX4_isFigure 1 = .ok (.iload_n 1, 1) := by decide +kernel
theorem dX4_isFigure_2 : decode cX4_isFigure 2 = .ok (.invokevirtual 32, 3) := by decide +kernel
theorem dX4_isFigure_5 : decode cX4_isFigure 5 = .ok (.bipush 48, 2) := by decide +kernel
theorem dX4_isFigure_7 : decode cX4_isFigure 7 = .ok (.if_icmp .lt 17, 3) := by decide +kernel
theorem dX4_isFigure_10 : decode cX4_isFigure 10 = .ok (.aload_n 0, 1) := by decide +kernel
theorem dX4_isFigure_11 : decode cX4_isFigure 11 = .ok (.iload_n 1, 1) := by decide +kernel
theorem dX4_isFigure_12 : decode cX4_isFigure 12 = .ok (.invokevirtual 32, 3) := by decide +kernel
theorem dX4_isFigure_15 : decode cX4_isFigure 15 = .ok (.bipush 57, 2) := by decide +kernel
theorem dX4_isFigure_17 : decode cX4_isFigure 17 = .ok (.if_icmp .gt 7, 3) := by decide +kernel
theorem dX4_isFigure_20 : decode cX4_isFigure 20 = .ok (.iconst 1, 1) := by decide +kernel
theorem dX4_isFigure_21 : decode cX4_isFigure 21 = .ok (.goto 4, 3) := by decide +kernel
theorem dX4_isFigure_24 : decode cX4_isFigure 24 = .ok (.iconst 0, 1) := by decide +kernel
theorem dX4_isFigure_25 : decode cX4_isFigure 25 = .ok (.ireturn, 1) := by decide +kernel
theorem dX4_figure_0 : decode cX4_figure 0 = .ok (.aload_n 0, 1) := by decide +kernel
theorem dX4_figure_1 : decode cX4_figure 1 = .ok (.iload_n 1, 1) := by decide +kernel
theorem dX4_figure_2 : decode cX4_figure 2 = .ok (.invokevirtual 32, 3) := by decide +kernel
theorem dX4_figure_5 : decode cX4_figure 5 = .ok (.bipush 48, 2) := by decide +kernel
theorem dX4_figure_7 : decode cX4_figure 7 = .ok (.isub, 1) := by decide +kernel
theorem dX4_figure_8 : decode cX4_figure 8 = .ok (.ireturn, 1) := by decide +kernel
theorem dX4_at_0 : decode cX4_at 0 = .ok (.iload_n 1, 1) := by decide +kernel
theorem dX4_at_1 : decode cX4_at 1 = .ok (.ifCond .lt 20, 3) := by decide +kernel
theorem dX4_at_4 : decode cX4_at 4 = .ok (.iload_n 1, 1) := by decide +kernel
theorem dX4_at_5 : decode cX4_at 5 = .ok (.aload_n 0, 1) := by decide +kernel
theorem dX4_at_6 : decode cX4_at 6 = .ok (.getfield 19, 3) := by decide +kernel
theorem dX4_at_9 : decode cX4_at 9 = .ok (.if_icmp .ge 12, 3) := by decide +kernel
theorem dX4_at_12 : decode cX4_at 12 = .ok (.iload_n 1, 1) := by decide +kernel
theorem dX4_at_13 : decode cX4_at 13 = .ok (.aload_n 0, 1) := by decide +kernel
theorem dX4_at_14 : decode cX4_at 14 = .ok (.getfield 9, 3) := by decide +kernel
theorem dX4_at_17 : decode cX4_at 17 = .ok (.arraylength, 1) := by decide +kernel
theorem dX4_at_18 : decode cX4_at 18 = .ok (.if_icmp .lt 5, 3) := by decide +kernel
theorem dX4_at_21 : decode cX4_at 21 = .ok (.iconst 0, 1) := by decide +kernel
theorem dX4_at_22 : decode cX4_at 22 = .ok (.ireturn, 1) := by decide +kernel
theorem dX4_at_23 : decode cX4_at 23 = .ok (.aload_n 0, 1) := by decide +kernel
theorem dX4_at_24 : decode cX4_at 24 = .ok (.getfield 9, 3) := by decide +kernel
theorem dX4_at_27 : decode cX4_at 27 = .ok (.iload_n 1, 1) := by decide +kernel
theorem dX4_at_28 : decode cX4_at 28 = .ok (.caload, 1) := by decide +kernel
theorem dX4_at_29 : decode cX4_at 29 = .ok (.ireturn, 1) := by decide +kernel
theorem dL_law_0 : decode cL_law 0 = .ok (.new 7, 3) := by decide +kernel
theorem dL_law_3 : decode cL_law 3 = .ok (.dup, 1) := by decide +kernel
theorem dL_law_4 : decode cL_law 4 = .ok (.invokespecial 9, 3) := by decide +kernel
theorem dL_law_7 : decode cL_law 7 = .ok (.astore_n 1, 1) := by decide +kernel
theorem dL_law_8 : decode cL_law 8 = .ok (.new 10, 3) := by decide +kernel
theorem dL_law_11 : decode cL_law 11 = .ok (.dup, 1) := by decide +kernel
theorem dL_law_12 : decode cL_law 12 = .ok (.invokespecial 12, 3) := by decide +kernel
theorem dL_law_15 : decode cL_law 15 = .ok (.astore_n 2, 1) := by decide +kernel
theorem dL_law_16 : decode cL_law 16 = .ok (.iconst 0, 1) := by decide +kernel
theorem dL_law_17 : decode cL_law 17 = .ok (.istore_n 3, 1) := by decide +kernel
theorem dL_law_18 : decode cL_law 18 = .ok (.iload_n 3, 1) := by decide +kernel
theorem dL_law_19 : decode cL_law 19 = .ok (.aload_n 0, 1) := by decide +kernel
theorem dL_law_20 : decode cL_law 20 = .ok (.arraylength, 1) := by decide +kernel
theorem dL_law_21 : decode cL_law 21 = .ok (.iconst 4, 1) := by decide +kernel
theorem dL_law_22 : decode cL_law 22 = .ok (.isub, 1) := by decide +kernel
theorem dL_law_23 : decode cL_law 23 = .ok (.if_icmp .gt 741, 3) := by decide +kernel
theorem dL_law_26 : decode cL_law 26 = .ok (.aload_n 0, 1) := by decide +kernel
theorem dL_law_27 : decode cL_law 27 = .ok (.iload_n 3, 1) := by decide +kernel
theorem dL_law_28 : decode cL_law 28 = .ok (.iaload, 1) := by decide +kernel
theorem dL_law_29 : decode cL_law 29 = .ok (.bipush 31, 2) := by decide +kernel
theorem dL_law_31 : decode cL_law 31 = .ok (.iand, 1) := by decide +kernel
theorem dL_law_32 : decode cL_law 32 = .ok (.tableswitch 726 0 29 #[136, 159, 172, 185, 198, 231, 254, 267, 290, 303, 336, 349, 362, 375, 398, 411, 424, 437, 450, 463, 486, 499, 532, 565, 578, 601, 634, 677, 690, 703], 136) := by decide +kernel
theorem dL_law_168 : decode cL_law 168 = .ok (.aload_n 1, 1) := by decide +kernel
theorem dL_law_169 : decode cL_law 169 = .ok (.aload_n 0, 1) := by decide +kernel
theorem dL_law_170 : decode cL_law 170 = .ok (.iload_n 3, 1) := by decide +kernel
theorem dL_law_171 : decode cL_law 171 = .ok (.iconst 1, 1) := by decide +kernel
theorem dL_law_172 : decode cL_law 172 = .ok (.iadd, 1) := by decide +kernel
theorem dL_law_173 : decode cL_law 173 = .ok (.iaload, 1) := by decide +kernel
theorem dL_law_174 : decode cL_law 174 = .ok (.invokevirtual 13, 3) := by decide +kernel
theorem dL_law_177 : decode cL_law 177 = .ok (.aload_n 2, 1) := by decide +kernel
theorem dL_law_178 : decode cL_law 178 = .ok (.aload_n 0, 1) := by decide +kernel
theorem dL_law_179 : decode cL_law 179 = .ok (.iload_n 3, 1) := by decide +kernel
theorem dL_law_180 : decode cL_law 180 = .ok (.iconst 1, 1) := by decide +kernel
theorem dL_law_181 : decode cL_law 181 = .ok (.iadd, 1) := by decide +kernel
theorem dL_law_182 : decode cL_law 182 = .ok (.iaload, 1) := by decide +kernel
theorem dL_law_183 : decode cL_law 183 = .ok (.invokevirtual 17, 3) := by decide +kernel
theorem dL_law_186 : decode cL_law 186 = .ok (.if_icmp .eq 572, 3) := by decide +kernel
theorem dL_law_189 : decode cL_law 189 = .ok (.iconst 0, 1) := by decide +kernel
theorem dL_law_190 : decode cL_law 190 = .ok (.ireturn, 1) := by decide +kernel
theorem dL_law_191 : decode cL_law 191 = .ok (.aload_n 1, 1) := by decide +kernel
theorem dL_law_192 : decode cL_law 192 = .ok (.invokevirtual 18, 3) := by decide +kernel
theorem dL_law_195 : decode cL_law 195 = .ok (.aload_n 2, 1) := by decide +kernel
theorem dL_law_196 : decode cL_law 196 = .ok (.invokevirtual 22, 3) := by decide +kernel
theorem dL_law_199 : decode cL_law 199 = .ok (.if_icmp .eq 559, 3) := by decide +kernel
theorem dL_law_202 : decode cL_law 202 = .ok (.iconst 0, 1) := by decide +kernel
theorem dL_law_203 : decode cL_law 203 = .ok (.ireturn, 1) := by decide +kernel
theorem dL_law_204 : decode cL_law 204 = .ok (.aload_n 1, 1) := by decide +kernel
theorem dL_law_205 : decode cL_law 205 = .ok (.invokevirtual 23, 3) := by decide +kernel
theorem dL_law_208 : decode cL_law 208 = .ok (.aload_n 2, 1) := by decide +kernel
theorem dL_law_209 : decode cL_law 209 = .ok (.invokevirtual 26, 3) := by decide +kernel
theorem dL_law_212 : decode cL_law 212 = .ok (.if_icmp .eq 546, 3) := by decide +kernel
theorem dL_law_215 : decode cL_law 215 = .ok (.iconst 0, 1) := by decide +kernel
theorem dL_law_216 : decode cL_law 216 = .ok (.ireturn, 1) := by decide +kernel
theorem dL_law_217 : decode cL_law 217 = .ok (.aload_n 1, 1) := by decide +kernel
theorem dL_law_218 : decode cL_law 218 = .ok (.invokevirtual 27, 3) := by decide +kernel
theorem dL_law_221 : decode cL_law 221 = .ok (.aload_n 2, 1) := by decide +kernel
theorem dL_law_222 : decode cL_law 222 = .ok (.invokevirtual 30, 3) := by decide +kernel
theorem dL_law_225 : decode cL_law 225 = .ok (.if_icmp .eq 533, 3) := by decide +kernel
theorem dL_law_228 : decode cL_law 228 = .ok (.iconst 0, 1) := by decide +kernel
theorem dL_law_229 : decode cL_law 229 = .ok (.ireturn, 1) := by decide +kernel
theorem dL_law_230 : decode cL_law 230 = .ok (.aload_n 1, 1) := by decide +kernel
theorem dL_law_231 : decode cL_law 231 = .ok (.aload_n 0, 1) := by decide +kernel
theorem dL_law_232 : decode cL_law 232 = .ok (.iload_n 3, 1) := by decide +kernel
theorem dL_law_233 : decode cL_law 233 = .ok (.iconst 1, 1) := by decide +kernel
theorem dL_law_234 : decode cL_law 234 = .ok (.iadd, 1) := by decide +kernel
theorem dL_law_235 : decode cL_law 235 = .ok (.iaload, 1) := by decide +kernel
theorem dL_law_236 : decode cL_law 236 = .ok (.aload_n 0, 1) := by decide +kernel
theorem dL_law_237 : decode cL_law 237 = .ok (.iload_n 3, 1) := by decide +kernel
theorem dL_law_238 : decode cL_law 238 = .ok (.iconst 2, 1) := by decide +kernel
theorem dL_law_239 : decode cL_law 239 = .ok (.iadd, 1) := by decide +kernel
theorem dL_law_240 : decode cL_law 240 = .ok (.iaload, 1) := by decide +kernel
theorem dL_law_241 : decode cL_law 241 = .ok (.invokevirtual 31, 3) := by decide +kernel
theorem dL_law_244 : decode cL_law 244 = .ok (.aload_n 2, 1) := by decide +kernel
theorem dL_law_245 : decode cL_law 245 = .ok (.aload_n 0, 1) := by decide +kernel
theorem dL_law_246 : decode cL_law 246 = .ok (.iload_n 3, 1) := by decide +kernel
theorem dL_law_247 : decode cL_law 247 = .ok (.iconst 1, 1) := by decide +kernel
theorem dL_law_248 : decode cL_law 248 = .ok (.iadd, 1) := by decide +kernel
theorem dL_law_249 : decode cL_law 249 = .ok (.iaload, 1) := by decide +kernel
theorem dL_law_250 : decode cL_law 250 = .ok (.aload_n 0, 1) := by decide +kernel
theorem dL_law_251 : decode cL_law 251 = .ok (.iload_n 3, 1) := by decide +kernel
theorem dL_law_252 : decode cL_law 252 = .ok (.iconst 2, 1) := by decide +kernel
theorem dL_law_253 : decode cL_law 253 = .ok (.iadd, 1) := by decide +kernel
theorem dL_law_254 : decode cL_law 254 = .ok (.iaload, 1) := by decide +kernel
theorem dL_law_255 : decode cL_law 255 = .ok (.invokevirtual 35, 3) := by decide +kernel
theorem dL_law_258 : decode cL_law 258 = .ok (.if_icmp .eq 500, 3) := by decide +kernel
theorem dL_law_261 : decode cL_law 261 = .ok (.iconst 0, 1) := by decide +kernel
theorem dL_law_262 : decode cL_law 262 = .ok (.ireturn, 1) := by decide +kernel
theorem dL_law_263 : decode cL_law 263 = .ok (.aload_n 1, 1) := by decide +kernel
theorem dL_law_264 : decode cL_law 264 = .ok (.aload_n 0, 1) := by decide +kernel
theorem dL_law_265 : decode cL_law 265 = .ok (.iload_n 3, 1) := by decide +kernel
theorem dL_law_266 : decode cL_law 266 = .ok (.iconst 1, 1) := by decide +kernel
theorem dL_law_267 : decode cL_law 267 = .ok (.iadd, 1) := by decide +kernel
theorem dL_law_268 : decode cL_law 268 = .ok (.iaload, 1) := by decide +kernel
theorem dL_law_269 : decode cL_law 269 = .ok (.invokevirtual 36, 3) := by decide +kernel
theorem dL_law_272 : decode cL_law 272 = .ok (.aload_n 2, 1) := by decide +kernel
theorem dL_law_273 : decode cL_law 273 = .ok (.aload_n 0, 1) := by decide +kernel
theorem dL_law_274 : decode cL_law 274 = .ok (.iload_n 3, 1) := by decide +kernel
theorem dL_law_275 : decode cL_law 275 = .ok (.iconst 1, 1) := by decide +kernel
theorem dL_law_276 : decode cL_law 276 = .ok (.iadd, 1) := by decide +kernel
theorem dL_law_277 : decode cL_law 277 = .ok (.iaload, 1) := by decide +kernel
theorem dL_law_278 : decode cL_law 278 = .ok (.invokevirtual 39, 3) := by decide +kernel
theorem dL_law_281 : decode cL_law 281 = .ok (.if_icmp .eq 477, 3) := by decide +kernel
theorem dL_law_284 : decode cL_law 284 = .ok (.iconst 0, 1) := by decide +kernel
theorem dL_law_285 : decode cL_law 285 = .ok (.ireturn, 1) := by decide +kernel
theorem dL_law_286 : decode cL_law 286 = .ok (.aload_n 1, 1) := by decide +kernel
theorem dL_law_287 : decode cL_law 287 = .ok (.invokevirtual 40, 3) := by decide +kernel
theorem dL_law_290 : decode cL_law 290 = .ok (.aload_n 2, 1) := by decide +kernel
theorem dL_law_291 : decode cL_law 291 = .ok (.invokevirtual 43, 3) := by decide +kernel
theorem dL_law_294 : decode cL_law 294 = .ok (.if_icmp .eq 464, 3) := by decide +kernel
theorem dL_law_297 : decode cL_law 297 = .ok (.iconst 0, 1) := by decide +kernel
theorem dL_law_298 : decode cL_law 298 = .ok (.ireturn, 1) := by decide +kernel
theorem dL_law_299 : decode cL_law 299 = .ok (.aload_n 1, 1) := by decide +kernel
theorem dL_law_300 : decode cL_law 300 = .ok (.aload_n 0, 1) := by decide +kernel
theorem dL_law_301 : decode cL_law 301 = .ok (.iload_n 3, 1) := by decide +kernel
theorem dL_law_302 : decode cL_law 302 = .ok (.iconst 1, 1) := by decide +kernel
theorem dL_law_303 : decode cL_law 303 = .ok (.iadd, 1) := by decide +kernel
theorem dL_law_304 : decode cL_law 304 = .ok (.iaload, 1) := by decide +kernel
theorem dL_law_305 : decode cL_law 305 = .ok (.invokevirtual 44, 3) := by decide +kernel
theorem dL_law_308 : decode cL_law 308 = .ok (.aload_n 2, 1) := by decide +kernel
theorem dL_law_309 : decode cL_law 309 = .ok (.aload_n 0, 1) := by decide +kernel
theorem dL_law_310 : decode cL_law 310 = .ok (.iload_n 3, 1) := by decide +kernel
theorem dL_law_311 : decode cL_law 311 = .ok (.iconst 1, 1) := by decide +kernel
theorem dL_law_312 : decode cL_law 312 = .ok (.iadd, 1) := by decide +kernel
theorem dL_law_313 : decode cL_law 313 = .ok (.iaload, 1) := by decide +kernel
theorem dL_law_314 : decode cL_law 314 = .ok (.invokevirtual 47, 3) := by decide +kernel
theorem dL_law_317 : decode cL_law 317 = .ok (.if_icmp .eq 441, 3) := by decide +kernel
theorem dL_law_320 : decode cL_law 320 = .ok (.iconst 0, 1) := by decide +kernel
theorem dL_law_321 : decode cL_law 321 = .ok (.ireturn, 1) := by decide +kernel
theorem dL_law_322 : decode cL_law 322 = .ok (.aload_n 1, 1) := by decide +kernel
theorem dL_law_323 : decode cL_law 323 = .ok (.invokevirtual 48, 3) := by decide +kernel
theorem dL_law_326 : decode cL_law 326 = .ok (.aload_n 2, 1) := by decide +kernel
theorem dL_law_327 : decode cL_law 327 = .ok (.invokevirtual 51, 3) := by decide +kernel
theorem dL_law_330 : decode cL_law 330 = .ok (.if_icmp .eq 428, 3) := by decide +kernel
theorem dL_law_333 : decode cL_law 333 = .ok (.iconst 0, 1) := by decide +kernel
theorem dL_law_334 : decode cL_law 334 = .ok (.ireturn, 1) := by decide +kernel
theorem dL_law_335 : decode cL_law 335 = .ok (.aload_n 1, 1) := by decide +kernel
theorem dL_law_336 : decode cL_law 336 = .ok (.aload_n 0, 1) := by decide +kernel
theorem dL_law_337 : decode cL_law 337 = .ok (.iload_n 3, 1) := by decide +kernel
theorem dL_law_338 : decode cL_law 338 = .ok (.iconst 1, 1) := by decide +kernel
theorem dL_law_339 : decode cL_law 339 = .ok (.iadd, 1) := by decide +kernel
theorem dL_law_340 : decode cL_law 340 = .ok (.iaload, 1) := by decide +kernel
theorem dL_law_341 : decode cL_law 341 = .ok (.aload_n 0, 1) := by decide +kernel
theorem dL_law_342 : decode cL_law 342 = .ok (.iload_n 3, 1) := by decide +kernel
theorem dL_law_343 : decode cL_law 343 = .ok (.iconst 2, 1) := by decide +kernel
theorem dL_law_344 : decode cL_law 344 = .ok (.iadd, 1) := by decide +kernel
theorem dL_law_345 : decode cL_law 345 = .ok (.iaload, 1) := by decide +kernel
theorem dL_law_346 : decode cL_law 346 = .ok (.invokevirtual 52, 3) := by decide +kernel
theorem dL_law_349 : decode cL_law 349 = .ok (.aload_n 2, 1) := by decide +kernel
theorem dL_law_350 : decode cL_law 350 = .ok (.aload_n 0, 1) := by decide +kernel
theorem dL_law_351 : decode cL_law 351 = .ok (.iload_n 3, 1) := by decide +kernel
theorem dL_law_352 : decode cL_law 352 = .ok (.iconst 1, 1) := by decide +kernel
theorem dL_law_353 : decode cL_law 353 = .ok (.iadd, 1) := by decide +kernel
theorem dL_law_354 : decode cL_law 354 = .ok (.iaload, 1) := by decide +kernel
theorem dL_law_355 : decode cL_law 355 = .ok (.aload_n 0, 1) := by decide +kernel
theorem dL_law_356 : decode cL_law 356 = .ok (.iload_n 3, 1) := by decide +kernel
theorem dL_law_357 : decode cL_law 357 = .ok (.iconst 2, 1) := by decide +kernel
theorem dL_law_358 : decode cL_law 358 = .ok (.iadd, 1) := by decide +kernel
theorem dL_law_359 : decode cL_law 359 = .ok (.iaload, 1) := by decide +kernel
theorem dL_law_360 : decode cL_law 360 = .ok (.invokevirtual 55, 3) := by decide +kernel
theorem dL_law_363 : decode cL_law 363 = .ok (.if_icmp .eq 395, 3) := by decide +kernel
theorem dL_law_366 : decode cL_law 366 = .ok (.iconst 0, 1) := by decide +kernel
theorem dL_law_367 : decode cL_law 367 = .ok (.ireturn, 1) := by decide +kernel
theorem dL_law_368 : decode cL_law 368 = .ok (.aload_n 1, 1) := by decide +kernel
theorem dL_law_369 : decode cL_law 369 = .ok (.invokevirtual 56, 3) := by decide +kernel
theorem dL_law_372 : decode cL_law 372 = .ok (.aload_n 2, 1) := by decide +kernel
theorem dL_law_373 : decode cL_law 373 = .ok (.invokevirtual 59, 3) := by decide +kernel
theorem dL_law_376 : decode cL_law 376 = .ok (.if_icmp .eq 382, 3) := by decide +kernel
theorem dL_law_379 : decode cL_law 379 = .ok (.iconst 0, 1) := by decide +kernel
theorem dL_law_380 : decode cL_law 380 = .ok (.ireturn, 1) := by decide +kernel
theorem dL_law_381 : decode cL_law 381 = .ok (.aload_n 1, 1) := by decide +kernel
theorem dL_law_382 : decode cL_law 382 = .ok (.invokevirtual 60, 3) := by decide +kernel
theorem dL_law_385 : decode cL_law 385 = .ok (.aload_n 2, 1) := by decide +kernel
theorem dL_law_386 : decode cL_law 386 = .ok (.invokevirtual 63, 3) := by decide +kernel
theorem dL_law_389 : decode cL_law 389 = .ok (.if_icmp .eq 369, 3) := by decide +kernel
theorem dL_law_392 : decode cL_law 392 = .ok (.iconst 0, 1) := by decide +kernel
theorem dL_law_393 : decode cL_law 393 = .ok (.ireturn, 1) := by decide +kernel
theorem dL_law_394 : decode cL_law 394 = .ok (.aload_n 1, 1) := by decide +kernel
theorem dL_law_395 : decode cL_law 395 = .ok (.invokevirtual 64, 3) := by decide +kernel
theorem dL_law_398 : decode cL_law 398 = .ok (.aload_n 2, 1) := by decide +kernel
theorem dL_law_399 : decode cL_law 399 = .ok (.invokevirtual 67, 3) := by decide +kernel
theorem dL_law_402 : decode cL_law 402 = .ok (.if_icmp .eq 356, 3) := by decide +kernel
theorem dL_law_405 : decode cL_law 405 = .ok (.iconst 0, 1) := by decide +kernel
theorem dL_law_406 : decode cL_law 406 = .ok (.ireturn, 1) := by decide +kernel
theorem dL_law_407 : decode cL_law 407 = .ok (.aload_n 1, 1) := by decide +kernel
theorem dL_law_408 : decode cL_law 408 = .ok (.aload_n 0, 1) := by decide +kernel
theorem dL_law_409 : decode cL_law 409 = .ok (.iload_n 3, 1) := by decide +kernel
theorem dL_law_410 : decode cL_law 410 = .ok (.iconst 1, 1) := by decide +kernel
theorem dL_law_411 : decode cL_law 411 = .ok (.iadd, 1) := by decide +kernel
theorem dL_law_412 : decode cL_law 412 = .ok (.iaload, 1) := by decide +kernel
theorem dL_law_413 : decode cL_law 413 = .ok (.invokevirtual 68, 3) := by decide +kernel
theorem dL_law_416 : decode cL_law 416 = .ok (.aload_n 2, 1) := by decide +kernel
theorem dL_law_417 : decode cL_law 417 = .ok (.aload_n 0, 1) := by decide +kernel
theorem dL_law_418 : decode cL_law 418 = .ok (.iload_n 3, 1) := by decide +kernel
theorem dL_law_419 : decode cL_law 419 = .ok (.iconst 1, 1) := by decide +kernel
theorem dL_law_420 : decode cL_law 420 = .ok (.iadd, 1) := by decide +kernel
theorem dL_law_421 : decode cL_law 421 = .ok (.iaload, 1) := by decide +kernel
theorem dL_law_422 : decode cL_law 422 = .ok (.invokevirtual 71, 3) := by decide +kernel
theorem dL_law_425 : decode cL_law 425 = .ok (.if_icmp .eq 333, 3) := by decide +kernel
theorem dL_law_428 : decode cL_law 428 = .ok (.iconst 0, 1) := by decide +kernel
theorem dL_law_429 : decode cL_law 429 = .ok (.ireturn, 1) := by decide +kernel
theorem dL_law_430 : decode cL_law 430 = .ok (.aload_n 1, 1) := by decide +kernel
theorem dL_law_431 : decode cL_law 431 = .ok (.invokevirtual 72, 3) := by decide +kernel
theorem dL_law_434 : decode cL_law 434 = .ok (.aload_n 2, 1) := by decide +kernel
theorem dL_law_435 : decode cL_law 435 = .ok (.invokevirtual 75, 3) := by decide +kernel
theorem dL_law_438 : decode cL_law 438 = .ok (.if_icmp .eq 320, 3) := by decide +kernel
theorem dL_law_441 : decode cL_law 441 = .ok (.iconst 0, 1) := by decide +kernel
theorem dL_law_442 : decode cL_law 442 = .ok (.ireturn, 1) := by decide +kernel
theorem dL_law_443 : decode cL_law 443 = .ok (.aload_n 1, 1) := by decide +kernel
theorem dL_law_444 : decode cL_law 444 = .ok (.invokevirtual 76, 3) := by decide +kernel
theorem dL_law_447 : decode cL_law 447 = .ok (.aload_n 2, 1) := by decide +kernel
theorem dL_law_448 : decode cL_law 448 = .ok (.invokevirtual 79, 3) := by decide +kernel
theorem dL_law_451 : decode cL_law 451 = .ok (.if_icmp .eq 307, 3) := by decide +kernel
theorem dL_law_454 : decode cL_law 454 = .ok (.iconst 0, 1) := by decide +kernel
theorem dL_law_455 : decode cL_law 455 = .ok (.ireturn, 1) := by decide +kernel
theorem dL_law_456 : decode cL_law 456 = .ok (.aload_n 1, 1) := by decide +kernel
theorem dL_law_457 : decode cL_law 457 = .ok (.invokevirtual 80, 3) := by decide +kernel
theorem dL_law_460 : decode cL_law 460 = .ok (.aload_n 2, 1) := by decide +kernel
theorem dL_law_461 : decode cL_law 461 = .ok (.invokevirtual 83, 3) := by decide +kernel
theorem dL_law_464 : decode cL_law 464 = .ok (.if_icmp .eq 294, 3) := by decide +kernel
theorem dL_law_467 : decode cL_law 467 = .ok (.iconst 0, 1) := by decide +kernel
theorem dL_law_468 : decode cL_law 468 = .ok (.ireturn, 1) := by decide +kernel
theorem dL_law_469 : decode cL_law 469 = .ok (.aload_n 1, 1) := by decide +kernel
theorem dL_law_470 : decode cL_law 470 = .ok (.invokevirtual 84, 3) := by decide +kernel
theorem dL_law_473 : decode cL_law 473 = .ok (.aload_n 2, 1) := by decide +kernel
theorem dL_law_474 : decode cL_law 474 = .ok (.invokevirtual 87, 3) := by decide +kernel
theorem dL_law_477 : decode cL_law 477 = .ok (.if_icmp .eq 281, 3) := by decide +kernel
theorem dL_law_480 : decode cL_law 480 = .ok (.iconst 0, 1) := by decide +kernel
theorem dL_law_481 : decode cL_law 481 = .ok (.ireturn, 1) := by decide +kernel
theorem dL_law_482 : decode cL_law 482 = .ok (.aload_n 1, 1) := by decide +kernel
theorem dL_law_483 : decode cL_law 483 = .ok (.invokevirtual 88, 3) := by decide +kernel
theorem dL_law_486 : decode cL_law 486 = .ok (.aload_n 2, 1) := by decide +kernel
theorem dL_law_487 : decode cL_law 487 = .ok (.invokevirtual 91, 3) := by decide +kernel
theorem dL_law_490 : decode cL_law 490 = .ok (.if_icmp .eq 268, 3) := by decide +kernel
theorem dL_law_493 : decode cL_law 493 = .ok (.iconst 0, 1) := by decide +kernel
theorem dL_law_494 : decode cL_law 494 = .ok (.ireturn, 1) := by decide +kernel
theorem dL_law_495 : decode cL_law 495 = .ok (.aload_n 1, 1) := by decide +kernel
theorem dL_law_496 : decode cL_law 496 = .ok (.aload_n 0, 1) := by decide +kernel
theorem dL_law_497 : decode cL_law 497 = .ok (.iload_n 3, 1) := by decide +kernel
theorem dL_law_498 : decode cL_law 498 = .ok (.iconst 1, 1) := by decide +kernel
theorem dL_law_499 : decode cL_law 499 = .ok (.iadd, 1) := by decide +kernel
theorem dL_law_500 : decode cL_law 500 = .ok (.iaload, 1) := by decide +kernel
theorem dL_law_501 : decode cL_law 501 = .ok (.invokevirtual 92, 3) := by decide +kernel
theorem dL_law_504 : decode cL_law 504 = .ok (.aload_n 2, 1) := by decide +kernel
theorem dL_law_505 : decode cL_law 505 = .ok (.aload_n 0, 1) := by decide +kernel
theorem dL_law_506 : decode cL_law 506 = .ok (.iload_n 3, 1) := by decide +kernel
theorem dL_law_507 : decode cL_law 507 = .ok (.iconst 1, 1) := by decide +kernel
theorem dL_law_508 : decode cL_law 508 = .ok (.iadd, 1) := by decide +kernel
theorem dL_law_509 : decode cL_law 509 = .ok (.iaload, 1) := by decide +kernel
theorem dL_law_510 : decode cL_law 510 = .ok (.invokevirtual 95, 3) := by decide +kernel
theorem dL_law_513 : decode cL_law 513 = .ok (.if_icmp .eq 245, 3) := by decide +kernel
theorem dL_law_516 : decode cL_law 516 = .ok (.iconst 0, 1) := by decide +kernel
theorem dL_law_517 : decode cL_law 517 = .ok (.ireturn, 1) := by decide +kernel
theorem dL_law_518 : decode cL_law 518 = .ok (.aload_n 1, 1) := by decide +kernel
theorem dL_law_519 : decode cL_law 519 = .ok (.invokevirtual 96, 3) := by decide +kernel
theorem dL_law_522 : decode cL_law 522 = .ok (.aload_n 2, 1) := by decide +kernel
theorem dL_law_523 : decode cL_law 523 = .ok (.invokevirtual 99, 3) := by decide +kernel
theorem dL_law_526 : decode cL_law 526 = .ok (.if_icmp .eq 232, 3) := by decide +kernel
theorem dL_law_529 : decode cL_law 529 = .ok (.iconst 0, 1) := by decide +kernel
theorem dL_law_530 : decode cL_law 530 = .ok (.ireturn, 1) := by decide +kernel
theorem dL_law_531 : decode cL_law 531 = .ok (.aload_n 1, 1) := by decide +kernel
theorem dL_law_532 : decode cL_law 532 = .ok (.aload_n 0, 1) := by decide +kernel
theorem dL_law_533 : decode cL_law 533 = .ok (.iload_n 3, 1) := by decide +kernel
theorem dL_law_534 : decode cL_law 534 = .ok (.iconst 1, 1) := by decide +kernel
theorem dL_law_535 : decode cL_law 535 = .ok (.iadd, 1) := by decide +kernel
theorem dL_law_536 : decode cL_law 536 = .ok (.iaload, 1) := by decide +kernel
theorem dL_law_537 : decode cL_law 537 = .ok (.aload_n 0, 1) := by decide +kernel
theorem dL_law_538 : decode cL_law 538 = .ok (.iload_n 3, 1) := by decide +kernel
theorem dL_law_539 : decode cL_law 539 = .ok (.iconst 2, 1) := by decide +kernel
theorem dL_law_540 : decode cL_law 540 = .ok (.iadd, 1) := by decide +kernel
theorem dL_law_541 : decode cL_law 541 = .ok (.iaload, 1) := by decide +kernel
theorem dL_law_542 : decode cL_law 542 = .ok (.invokevirtual 100, 3) := by decide +kernel
theorem dL_law_545 : decode cL_law 545 = .ok (.aload_n 2, 1) := by decide +kernel
theorem dL_law_546 : decode cL_law 546 = .ok (.aload_n 0, 1) := by decide +kernel
theorem dL_law_547 : decode cL_law 547 = .ok (.iload_n 3, 1) := by decide +kernel
theorem dL_law_548 : decode cL_law 548 = .ok (.iconst 1, 1) := by decide +kernel
theorem dL_law_549 : decode cL_law 549 = .ok (.iadd, 1) := by decide +kernel
theorem dL_law_550 : decode cL_law 550 = .ok (.iaload, 1) := by decide +kernel
theorem dL_law_551 : decode cL_law 551 = .ok (.aload_n 0, 1) := by decide +kernel
theorem dL_law_552 : decode cL_law 552 = .ok (.iload_n 3, 1) := by decide +kernel
theorem dL_law_553 : decode cL_law 553 = .ok (.iconst 2, 1) := by decide +kernel
theorem dL_law_554 : decode cL_law 554 = .ok (.iadd, 1) := by decide +kernel
theorem dL_law_555 : decode cL_law 555 = .ok (.iaload, 1) := by decide +kernel
theorem dL_law_556 : decode cL_law 556 = .ok (.invokevirtual 103, 3) := by decide +kernel
theorem dL_law_559 : decode cL_law 559 = .ok (.if_icmp .eq 199, 3) := by decide +kernel
theorem dL_law_562 : decode cL_law 562 = .ok (.iconst 0, 1) := by decide +kernel
theorem dL_law_563 : decode cL_law 563 = .ok (.ireturn, 1) := by decide +kernel
theorem dL_law_564 : decode cL_law 564 = .ok (.aload_n 1, 1) := by decide +kernel
theorem dL_law_565 : decode cL_law 565 = .ok (.aload_n 0, 1) := by decide +kernel
theorem dL_law_566 : decode cL_law 566 = .ok (.iload_n 3, 1) := by decide +kernel
theorem dL_law_567 : decode cL_law 567 = .ok (.iconst 1, 1) := by decide +kernel
theorem dL_law_568 : decode cL_law 568 = .ok (.iadd, 1) := by decide +kernel
theorem dL_law_569 : decode cL_law 569 = .ok (.iaload, 1) := by decide +kernel
theorem dL_law_570 : decode cL_law 570 = .ok (.aload_n 0, 1) := by decide +kernel
theorem dL_law_571 : decode cL_law 571 = .ok (.iload_n 3, 1) := by decide +kernel
theorem dL_law_572 : decode cL_law 572 = .ok (.iconst 2, 1) := by decide +kernel
theorem dL_law_573 : decode cL_law 573 = .ok (.iadd, 1) := by decide +kernel
theorem dL_law_574 : decode cL_law 574 = .ok (.iaload, 1) := by decide +kernel
theorem dL_law_575 : decode cL_law 575 = .ok (.invokevirtual 104, 3) := by decide +kernel
theorem dL_law_578 : decode cL_law 578 = .ok (.aload_n 2, 1) := by decide +kernel
theorem dL_law_579 : decode cL_law 579 = .ok (.aload_n 0, 1) := by decide +kernel
theorem dL_law_580 : decode cL_law 580 = .ok (.iload_n 3, 1) := by decide +kernel
theorem dL_law_581 : decode cL_law 581 = .ok (.iconst 1, 1) := by decide +kernel
theorem dL_law_582 : decode cL_law 582 = .ok (.iadd, 1) := by decide +kernel
theorem dL_law_583 : decode cL_law 583 = .ok (.iaload, 1) := by decide +kernel
theorem dL_law_584 : decode cL_law 584 = .ok (.aload_n 0, 1) := by decide +kernel
theorem dL_law_585 : decode cL_law 585 = .ok (.iload_n 3, 1) := by decide +kernel
theorem dL_law_586 : decode cL_law 586 = .ok (.iconst 2, 1) := by decide +kernel
theorem dL_law_587 : decode cL_law 587 = .ok (.iadd, 1) := by decide +kernel
theorem dL_law_588 : decode cL_law 588 = .ok (.iaload, 1) := by decide +kernel
theorem dL_law_589 : decode cL_law 589 = .ok (.invokevirtual 107, 3) := by decide +kernel
theorem dL_law_592 : decode cL_law 592 = .ok (.if_icmp .eq 166, 3) := by decide +kernel
theorem dL_law_595 : decode cL_law 595 = .ok (.iconst 0, 1) := by decide +kernel
theorem dL_law_596 : decode cL_law 596 = .ok (.ireturn, 1) := by decide +kernel
theorem dL_law_597 : decode cL_law 597 = .ok (.aload_n 1, 1) := by decide +kernel
theorem dL_law_598 : decode cL_law 598 = .ok (.invokevirtual 108, 3) := by decide +kernel
theorem dL_law_601 : decode cL_law 601 = .ok (.aload_n 2, 1) := by decide +kernel
theorem dL_law_602 : decode cL_law 602 = .ok (.invokevirtual 111, 3) := by decide +kernel
theorem dL_law_605 : decode cL_law 605 = .ok (.if_icmp .eq 153, 3) := by decide +kernel
theorem dL_law_608 : decode cL_law 608 = .ok (.iconst 0, 1) := by decide +kernel
theorem dL_law_609 : decode cL_law 609 = .ok (.ireturn, 1) := by decide +kernel
theorem dL_law_610 : decode cL_law 610 = .ok (.aload_n 1, 1) := by decide +kernel
theorem dL_law_611 : decode cL_law 611 = .ok (.aload_n 0, 1) := by decide +kernel
theorem dL_law_612 : decode cL_law 612 = .ok (.iload_n 3, 1) := by decide +kernel
theorem dL_law_613 : decode cL_law 613 = .ok (.iconst 1, 1) := by decide +kernel
theorem dL_law_614 : decode cL_law 614 = .ok (.iadd, 1) := by decide +kernel
theorem dL_law_615 : decode cL_law 615 = .ok (.iaload, 1) := by decide +kernel
theorem dL_law_616 : decode cL_law 616 = .ok (.invokevirtual 112, 3) := by decide +kernel
theorem dL_law_619 : decode cL_law 619 = .ok (.aload_n 2, 1) := by decide +kernel
theorem dL_law_620 : decode cL_law 620 = .ok (.aload_n 0, 1) := by decide +kernel
theorem dL_law_621 : decode cL_law 621 = .ok (.iload_n 3, 1) := by decide +kernel
theorem dL_law_622 : decode cL_law 622 = .ok (.iconst 1, 1) := by decide +kernel
theorem dL_law_623 : decode cL_law 623 = .ok (.iadd, 1) := by decide +kernel
theorem dL_law_624 : decode cL_law 624 = .ok (.iaload, 1) := by decide +kernel
theorem dL_law_625 : decode cL_law 625 = .ok (.invokevirtual 115, 3) := by decide +kernel
theorem dL_law_628 : decode cL_law 628 = .ok (.if_icmp .eq 130, 3) := by decide +kernel
theorem dL_law_631 : decode cL_law 631 = .ok (.iconst 0, 1) := by decide +kernel
theorem dL_law_632 : decode cL_law 632 = .ok (.ireturn, 1) := by decide +kernel
theorem dL_law_633 : decode cL_law 633 = .ok (.aload_n 1, 1) := by decide +kernel
theorem dL_law_634 : decode cL_law 634 = .ok (.aload_n 0, 1) := by decide +kernel
theorem dL_law_635 : decode cL_law 635 = .ok (.iload_n 3, 1) := by decide +kernel
theorem dL_law_636 : decode cL_law 636 = .ok (.iconst 1, 1) := by decide +kernel
theorem dL_law_637 : decode cL_law 637 = .ok (.iadd, 1) := by decide +kernel
theorem dL_law_638 : decode cL_law 638 = .ok (.iaload, 1) := by decide +kernel
theorem dL_law_639 : decode cL_law 639 = .ok (.aload_n 0, 1) := by decide +kernel
theorem dL_law_640 : decode cL_law 640 = .ok (.iload_n 3, 1) := by decide +kernel
theorem dL_law_641 : decode cL_law 641 = .ok (.iconst 2, 1) := by decide +kernel
theorem dL_law_642 : decode cL_law 642 = .ok (.iadd, 1) := by decide +kernel
theorem dL_law_643 : decode cL_law 643 = .ok (.iaload, 1) := by decide +kernel
theorem dL_law_644 : decode cL_law 644 = .ok (.invokevirtual 116, 3) := by decide +kernel
theorem dL_law_647 : decode cL_law 647 = .ok (.aload_n 2, 1) := by decide +kernel
theorem dL_law_648 : decode cL_law 648 = .ok (.aload_n 0, 1) := by decide +kernel
theorem dL_law_649 : decode cL_law 649 = .ok (.iload_n 3, 1) := by decide +kernel
theorem dL_law_650 : decode cL_law 650 = .ok (.iconst 1, 1) := by decide +kernel
theorem dL_law_651 : decode cL_law 651 = .ok (.iadd, 1) := by decide +kernel
theorem dL_law_652 : decode cL_law 652 = .ok (.iaload, 1) := by decide +kernel
theorem dL_law_653 : decode cL_law 653 = .ok (.aload_n 0, 1) := by decide +kernel
theorem dL_law_654 : decode cL_law 654 = .ok (.iload_n 3, 1) := by decide +kernel
theorem dL_law_655 : decode cL_law 655 = .ok (.iconst 2, 1) := by decide +kernel
theorem dL_law_656 : decode cL_law 656 = .ok (.iadd, 1) := by decide +kernel
theorem dL_law_657 : decode cL_law 657 = .ok (.iaload, 1) := by decide +kernel
theorem dL_law_658 : decode cL_law 658 = .ok (.invokevirtual 119, 3) := by decide +kernel
theorem dL_law_661 : decode cL_law 661 = .ok (.if_icmp .eq 97, 3) := by decide +kernel
theorem dL_law_664 : decode cL_law 664 = .ok (.iconst 0, 1) := by decide +kernel
theorem dL_law_665 : decode cL_law 665 = .ok (.ireturn, 1) := by decide +kernel
theorem dL_law_666 : decode cL_law 666 = .ok (.aload_n 1, 1) := by decide +kernel
theorem dL_law_667 : decode cL_law 667 = .ok (.aload_n 0, 1) := by decide +kernel
theorem dL_law_668 : decode cL_law 668 = .ok (.iload_n 3, 1) := by decide +kernel
theorem dL_law_669 : decode cL_law 669 = .ok (.iconst 1, 1) := by decide +kernel
theorem dL_law_670 : decode cL_law 670 = .ok (.iadd, 1) := by decide +kernel
theorem dL_law_671 : decode cL_law 671 = .ok (.iaload, 1) := by decide +kernel
theorem dL_law_672 : decode cL_law 672 = .ok (.aload_n 0, 1) := by decide +kernel
theorem dL_law_673 : decode cL_law 673 = .ok (.iload_n 3, 1) := by decide +kernel
theorem dL_law_674 : decode cL_law 674 = .ok (.iconst 2, 1) := by decide +kernel
theorem dL_law_675 : decode cL_law 675 = .ok (.iadd, 1) := by decide +kernel
theorem dL_law_676 : decode cL_law 676 = .ok (.iaload, 1) := by decide +kernel
theorem dL_law_677 : decode cL_law 677 = .ok (.aload_n 0, 1) := by decide +kernel
theorem dL_law_678 : decode cL_law 678 = .ok (.iload_n 3, 1) := by decide +kernel
theorem dL_law_679 : decode cL_law 679 = .ok (.iconst 3, 1) := by decide +kernel
theorem dL_law_680 : decode cL_law 680 = .ok (.iadd, 1) := by decide +kernel
theorem dL_law_681 : decode cL_law 681 = .ok (.iaload, 1) := by decide +kernel
theorem dL_law_682 : decode cL_law 682 = .ok (.invokevirtual 120, 3) := by decide +kernel
theorem dL_law_685 : decode cL_law 685 = .ok (.aload_n 2, 1) := by decide +kernel
theorem dL_law_686 : decode cL_law 686 = .ok (.aload_n 0, 1) := by decide +kernel
theorem dL_law_687 : decode cL_law 687 = .ok (.iload_n 3, 1) := by decide +kernel
theorem dL_law_688 : decode cL_law 688 = .ok (.iconst 1, 1) := by decide +kernel
theorem dL_law_689 : decode cL_law 689 = .ok (.iadd, 1) := by decide +kernel
theorem dL_law_690 : decode cL_law 690 = .ok (.iaload, 1) := by decide +kernel
theorem dL_law_691 : decode cL_law 691 = .ok (.aload_n 0, 1) := by decide +kernel
theorem dL_law_692 : decode cL_law 692 = .ok (.iload_n 3, 1) := by decide +kernel
theorem dL_law_693 : decode cL_law 693 = .ok (.iconst 2, 1) := by decide +kernel
theorem dL_law_694 : decode cL_law 694 = .ok (.iadd, 1) := by decide +kernel
theorem dL_law_695 : decode cL_law 695 = .ok (.iaload, 1) := by decide +kernel
theorem dL_law_696 : decode cL_law 696 = .ok (.aload_n 0, 1) := by decide +kernel
theorem dL_law_697 : decode cL_law 697 = .ok (.iload_n 3, 1) := by decide +kernel
theorem dL_law_698 : decode cL_law 698 = .ok (.iconst 3, 1) := by decide +kernel
theorem dL_law_699 : decode cL_law 699 = .ok (.iadd, 1) := by decide +kernel
theorem dL_law_700 : decode cL_law 700 = .ok (.iaload, 1) := by decide +kernel
theorem dL_law_701 : decode cL_law 701 = .ok (.invokevirtual 124, 3) := by decide +kernel
theorem dL_law_704 : decode cL_law 704 = .ok (.if_icmp .eq 54, 3) := by decide +kernel
theorem dL_law_707 : decode cL_law 707 = .ok (.iconst 0, 1) := by decide +kernel
theorem dL_law_708 : decode cL_law 708 = .ok (.ireturn, 1) := by decide +kernel
theorem dL_law_709 : decode cL_law 709 = .ok (.aload_n 1, 1) := by decide +kernel
theorem dL_law_710 : decode cL_law 710 = .ok (.invokevirtual 125, 3) := by decide +kernel
theorem dL_law_713 : decode cL_law 713 = .ok (.aload_n 2, 1) := by decide +kernel
theorem dL_law_714 : decode cL_law 714 = .ok (.invokevirtual 128, 3) := by decide +kernel
theorem dL_law_717 : decode cL_law 717 = .ok (.if_icmp .eq 41, 3) := by decide +kernel
theorem dL_law_720 : decode cL_law 720 = .ok (.iconst 0, 1) := by decide +kernel
theorem dL_law_721 : decode cL_law 721 = .ok (.ireturn, 1) := by decide +kernel
theorem dL_law_722 : decode cL_law 722 = .ok (.aload_n 1, 1) := by decide +kernel
theorem dL_law_723 : decode cL_law 723 = .ok (.invokevirtual 129, 3) := by decide +kernel
theorem dL_law_726 : decode cL_law 726 = .ok (.aload_n 2, 1) := by decide +kernel
theorem dL_law_727 : decode cL_law 727 = .ok (.invokevirtual 132, 3) := by decide +kernel
theorem dL_law_730 : decode cL_law 730 = .ok (.if_icmp .eq 28, 3) := by decide +kernel
theorem dL_law_733 : decode cL_law 733 = .ok (.iconst 0, 1) := by decide +kernel
theorem dL_law_734 : decode cL_law 734 = .ok (.ireturn, 1) := by decide +kernel
theorem dL_law_735 : decode cL_law 735 = .ok (.aload_n 1, 1) := by decide +kernel
theorem dL_law_736 : decode cL_law 736 = .ok (.aload_n 0, 1) := by decide +kernel
theorem dL_law_737 : decode cL_law 737 = .ok (.iload_n 3, 1) := by decide +kernel
theorem dL_law_738 : decode cL_law 738 = .ok (.iconst 1, 1) := by decide +kernel
theorem dL_law_739 : decode cL_law 739 = .ok (.iadd, 1) := by decide +kernel
theorem dL_law_740 : decode cL_law 740 = .ok (.iaload, 1) := by decide +kernel
theorem dL_law_741 : decode cL_law 741 = .ok (.invokevirtual 133, 3) := by decide +kernel
theorem dL_law_744 : decode cL_law 744 = .ok (.aload_n 2, 1) := by decide +kernel
theorem dL_law_745 : decode cL_law 745 = .ok (.aload_n 0, 1) := by decide +kernel
theorem dL_law_746 : decode cL_law 746 = .ok (.iload_n 3, 1) := by decide +kernel
theorem dL_law_747 : decode cL_law 747 = .ok (.iconst 1, 1) := by decide +kernel
theorem dL_law_748 : decode cL_law 748 = .ok (.iadd, 1) := by decide +kernel
theorem dL_law_749 : decode cL_law 749 = .ok (.iaload, 1) := by decide +kernel
theorem dL_law_750 : decode cL_law 750 = .ok (.invokevirtual 136, 3) := by decide +kernel
theorem dL_law_753 : decode cL_law 753 = .ok (.if_icmp .eq 5, 3) := by decide +kernel
theorem dL_law_756 : decode cL_law 756 = .ok (.iconst 0, 1) := by decide +kernel
theorem dL_law_757 : decode cL_law 757 = .ok (.ireturn, 1) := by decide +kernel
theorem dL_law_758 : decode cL_law 758 = .ok (.iinc 3 4, 3) := by decide +kernel
theorem dL_law_761 : decode cL_law 761 = .ok (.goto (-743), 3) := by decide +kernel
theorem dL_law_764 : decode cL_law 764 = .ok (.iconst 1, 1) := by decide +kernel
theorem dL_law_765 : decode cL_law 765 = .ok (.ireturn, 1) := by decide +kernel
end
section
theorem dX5_init_0 : decode cX5_init 0 = .ok (.aload_n 0, 1) := by decide +kernel
theorem dX5_init_1 : decode cX5_init 1 = .ok (.invokespecial 1, 3) := by decide +kernel
theorem dX5_init_4 : decode cX5_init 4 = .ok (.aload_n 0, 1) := by decide +kernel
theorem dX5_init_5 : decode cX5_init 5 = .ok (.new 7, 3) := by decide +kernel
theorem dX5_init_8 : decode cX5_init 8 = .ok (.dup, 1) := by decide +kernel
theorem dX5_init_9 : decode cX5_init 9 = .ok (.invokespecial 9, 3) := by decide +kernel
theorem dX5_init_12 : decode cX5_init 12 = .ok (.putfield 10, 3) := by decide +kernel
theorem dX5_init_15 : decode cX5_init 15 = .ok (.aload_n 0, 1) := by decide +kernel
theorem dX5_init_16 : decode cX5_init 16 = .ok (.new 16, 3) := by decide +kernel
theorem dX5_init_19 : decode cX5_init 19 = .ok (.dup, 1) := by decide +kernel
theorem dX5_init_20 : decode cX5_init 20 = .ok (.invokespecial 18, 3) := by decide +kernel
theorem dX5_init_23 : decode cX5_init 23 = .ok (.putfield 19, 3) := by decide +kernel
theorem dX5_init_26 : decode cX5_init 26 = .ok (.aload_n 0, 1) := by decide +kernel
theorem dX5_init_27 : decode cX5_init 27 = .ok (.new 16, 3) := by decide +kernel
theorem dX5_init_30 : decode cX5_init 30 = .ok (.dup, 1) := by decide +kernel
theorem dX5_init_31 : decode cX5_init 31 = .ok (.invokespecial 18, 3) := by decide +kernel
theorem dX5_init_34 : decode cX5_init 34 = .ok (.putfield 23, 3) := by decide +kernel
theorem dX5_init_37 : decode cX5_init 37 = .ok (.aload_n 0, 1) := by decide +kernel
theorem dX5_init_38 : decode cX5_init 38 = .ok (.new 26, 3) := by decide +kernel
theorem dX5_init_41 : decode cX5_init 41 = .ok (.dup, 1) := by decide +kernel
theorem dX5_init_42 : decode cX5_init 42 = .ok (.invokespecial 28, 3) := by decide +kernel
theorem dX5_init_45 : decode cX5_init 45 = .ok (.putfield 29, 3) := by decide +kernel
theorem dX5_init_48 : decode cX5_init 48 = .ok (.aload_n 0, 1) := by decide +kernel
theorem dX5_init_49 : decode cX5_init 49 = .ok (.new 33, 3) := by decide +kernel
theorem dX5_init_52 : decode cX5_init 52 = .ok (.dup, 1) := by decide +kernel
theorem dX5_init_53 : decode cX5_init 53 = .ok (.invokespecial 35, 3) := by decide +kernel
theorem dX5_init_56 : decode cX5_init 56 = .ok (.putfield 36, 3) := by decide +kernel
theorem dX5_init_59 : decode cX5_init 59 = .ok (.aload_n 0, 1) := by decide +kernel
theorem dX5_init_60 : decode cX5_init 60 = .ok (.new 40, 3) := by decide +kernel
theorem dX5_init_63 : decode cX5_init 63 = .ok (.dup, 1) := by decide +kernel
theorem dX5_init_64 : decode cX5_init 64 = .ok (.bipush 8, 2) := by decide +kernel
theorem dX5_init_66 : decode cX5_init 66 = .ok (.invokespecial 42, 3) := by decide +kernel
theorem dX5_init_69 : decode cX5_init 69 = .ok (.putfield 45, 3) := by decide +kernel
theorem dX5_init_72 : decode cX5_init 72 = .ok (.aload_n 0, 1) := by decide +kernel
theorem dX5_init_73 : decode cX5_init 73 = .ok (.new 40, 3) := by decide +kernel
theorem dX5_init_76 : decode cX5_init 76 = .ok (.dup, 1) := by decide +kernel
theorem dX5_init_77 : decode cX5_init 77 = .ok (.iconst 2, 1) := by decide +kernel
theorem dX5_init_78 : decode cX5_init 78 = .ok (.invokespecial 42, 3) := by decide +kernel
theorem dX5_init_81 : decode cX5_init 81 = .ok (.putfield 49, 3) := by decide +kernel
theorem dX5_init_84 : decode cX5_init 84 = .ok (.iconst 0, 1) := by decide +kernel
theorem dX5_init_85 : decode cX5_init 85 = .ok (.istore_n 1, 1) := by decide +kernel
theorem dX5_init_86 : decode cX5_init 86 = .ok (.iload_n 1, 1) := by decide +kernel
theorem dX5_init_87 : decode cX5_init 87 = .ok (.ldc 52, 2) := by decide +kernel
theorem dX5_init_89 : decode cX5_init 89 = .ok (.invokevirtual 54, 3) := by decide +kernel
theorem dX5_init_92 : decode cX5_init 92 = .ok (.if_icmp .ge 23, 3) := by decide +kernel
theorem dX5_init_95 : decode cX5_init 95 = .ok (.aload_n 0, 1) := by decide +kernel
theorem dX5_init_96 : decode cX5_init 96 = .ok (.getfield 10, 3) := by decide +kernel
theorem dX5_init_99 : decode cX5_init 99 = .ok (.ldc 52, 2) := by decide +kernel
theorem dX5_init_101 : decode cX5_init 101 = .ok (.iload_n 1, 1) := by decide +kernel
theorem dX5_init_102 : decode cX5_init 102 = .ok (.invokevirtual 60, 3) := by decide +kernel
theorem dX5_init_105 : decode cX5_init 105 = .ok (.invokevirtual 64, 3) := by decide +kernel
theorem dX5_init_108 : decode cX5_init 108 = .ok (.pop, 1) := by decide +kernel
theorem dX5_init_109 : decode cX5_init 109 = .ok (.iinc 1 1, 3) := by decide +kernel
theorem dX5_init_112 : decode cX5_init 112 = .ok (.goto (-26), 3) := by decide +kernel
theorem dX5_init_115 : decode cX5_init 115 = .ok (.aload_n 0, 1) := by decide +kernel
theorem dX5_init_116 : decode cX5_init 116 = .ok (.getfield 10, 3) := by decide +kernel
theorem dX5_init_119 : decode cX5_init 119 = .ok (.aload_n 0, 1) := by decide +kernel
theorem dX5_init_120 : decode cX5_init 120 = .ok (.getfield 19, 3) := by decide +kernel
theorem dX5_init_123 : decode cX5_init 123 = .ok (.invokevirtual 68, 3) := by decide +kernel
theorem dX5_init_126 : decode cX5_init 126 = .ok (.pop, 1) := by decide +kernel
theorem dX5_init_127 : decode cX5_init 127 = .ok (.aload_n 0, 1) := by decide +kernel
theorem dX5_init_128 : decode cX5_init 128 = .ok (.getfield 10, 3) := by decide +kernel
theorem dX5_init_131 : decode cX5_init 131 = .ok (.invokevirtual 72, 3) := by decide +kernel
theorem dX5_init_134 : decode cX5_init 134 = .ok (.return_, 1) := by decide +kernel
theorem dX5_write_0 : decode cX5_write 0 = .ok (.iload_n 1, 1) := by decide +kernel
theorem dX5_write_1 : decode cX5_write 1 = .ok (.bipush 32, 2) := by decide +kernel
theorem dX5_write_3 : decode cX5_write 3 = .ok (.bipush 126, 2) := by decide +kernel
theorem dX5_write_5 : decode cX5_write 5 = .ok (.invokestatic 75, 3) := by decide +kernel
theorem dX5_write_8 : decode cX5_write 8 = .ok (.ifCond .eq 5, 3) := by decide +kernel
theorem dX5_write_11 : decode cX5_write 11 = .ok (.iconst (-1), 1) := by decide +kernel
theorem dX5_write_12 : decode cX5_write 12 = .ok (.ireturn, 1) := by decide +kernel
theorem dX5_write_13 : decode cX5_write 13 = .ok (.aload_n 0, 1) := by decide +kernel
theorem dX5_write_14 : decode cX5_write 14 = .ok (.getfield 10, 3) := by decide +kernel
theorem dX5_write_17 : decode cX5_write 17 = .ok (.iload_n 1, 1) := by decide +kernel
theorem dX5_write_18 : decode cX5_write 18 = .ok (.i2c, 1) := by decide +kernel
theorem dX5_write_19 : decode cX5_write 19 = .ok (.invokevirtual 64, 3) := by decide +kernel
theorem dX5_write_22 : decode cX5_write 22 = .ok (.ifCond .eq 13, 3) := by decide +kernel
theorem dX5_write_25 : decode cX5_write 25 = .ok (.aload_n 0, 1) := by decide +kernel
theorem dX5_write_26 : decode cX5_write 26 = .ok (.getfield 10, 3) := by decide +kernel
theorem dX5_write_29 : decode cX5_write 29 = .ok (.getfield 79, 3) := by decide +kernel
theorem dX5_write_32 : decode cX5_write 32 = .ok (.goto 5, 3) := by decide +kernel
theorem dX5_write_35 : decode cX5_write 35 = .ok (.bipush (-3), 2) := by decide +kernel
theorem dX5_write_37 : decode cX5_write 37 = .ok (.ireturn, 1) := by decide +kernel
theorem dX5_wipe_0 : decode cX5_wipe 0 = .ok (.aload_n 0, 1) := by decide +kernel
theorem dX5_wipe_1 : decode cX5_wipe 1 = .ok (.getfield 10, 3) := by decide +kernel
theorem dX5_wipe_4 : decode cX5_wipe 4 = .ok (.getfield 79, 3) := by decide +kernel
theorem dX5_wipe_7 : decode cX5_wipe 7 = .ok (.istore_n 1, 1) := by decide +kernel
theorem dX5_wipe_8 : decode cX5_wipe 8 = .ok (.aload_n 0, 1) := by decide +kernel
theorem dX5_wipe_9 : decode cX5_wipe 9 = .ok (.getfield 10, 3) := by decide +kernel
theorem dX5_wipe_12 : decode cX5_wipe 12 = .ok (.invokevirtual 72, 3) := by decide +kernel
theorem dX5_wipe_15 : decode cX5_wipe 15 = .ok (.iload_n 1, 1) := by decide +kernel
theorem dX5_wipe_16 : decode cX5_wipe 16 = .ok (.ireturn, 1) := by decide +kernel
theorem dX5_fault_0 : decode cX5_fault 0 = .ok (.aload_n 0, 1) := by decide +kernel
theorem dX5_fault_1 : decode cX5_fault 1 = .ok (.getfield 10, 3) := by decide +kernel
theorem dX5_fault_4 : decode cX5_fault 4 = .ok (.aload_n 0, 1) := by decide +kernel
theorem dX5_fault_5 : decode cX5_fault 5 = .ok (.getfield 23, 3) := by decide +kernel
theorem dX5_fault_8 : decode cX5_fault 8 = .ok (.invokevirtual 68, 3) := by decide +kernel
theorem dX5_fault_11 : decode cX5_fault 11 = .ok (.ireturn, 1) := by decide +kernel
theorem dX5_lay_0 : decode cX5_lay 0 = .ok (.aload_n 0, 1) := by decide +kernel
theorem dX5_lay_1 : decode cX5_lay 1 = .ok (.getfield 10, 3) := by decide +kernel
theorem dX5_lay_4 : decode cX5_lay 4 = .ok (.aload_n 0, 1) := by decide +kernel
theorem dX5_lay_5 : decode cX5_lay 5 = .ok (.getfield 23, 3) := by decide +kernel
theorem dX5_lay_8 : decode cX5_lay 8 = .ok (.invokevirtual 68, 3) := by decide +kernel
theorem dX5_lay_11 : decode cX5_lay 11 = .ok (.bipush (-4), 2) := by decide +kernel
theorem dX5_lay_13 : decode cX5_lay 13 = .ok (.if_icmp .ne 13, 3) := by decide +kernel
theorem dX5_lay_16 : decode cX5_lay 16 = .ok (.aload_n 0, 1) := by decide +kernel
theorem dX5_lay_17 : decode cX5_lay 17 = .ok (.getfield 23, 3) := by decide +kernel
theorem dX5_lay_20 : decode cX5_lay 20 = .ok (.getfield 82, 3) := by decide +kernel
theorem dX5_lay_23 : decode cX5_lay 23 = .ok (.ifCond .ne 6, 3) := by decide +kernel
theorem dX5_lay_26 : decode cX5_lay 26 = .ok (.bipush (-2), 2) := by decide +kernel
theorem dX5_lay_28 : decode cX5_lay 28 = .ok (.ireturn, 1) := by decide +kernel
theorem dX5_lay_29 : decode cX5_lay 29 = .ok (.aload_n 0, 1) := by decide +kernel
theorem dX5_lay_30 : decode cX5_lay 30 = .ok (.getfield 19, 3) := by decide +kernel
theorem dX5_lay_33 : decode cX5_lay 33 = .ok (.aload_n 0, 1) := by decide +kernel
theorem dX5_lay_34 : decode cX5_lay 34 = .ok (.getfield 23, 3) := by decide +kernel
theorem dX5_lay_37 : decode cX5_lay 37 = .ok (.invokevirtual 85, 3) := by decide +kernel
theorem dX5_lay_40 : decode cX5_lay 40 = .ok (.aload_n 0, 1) := by decide +kernel
theorem dX5_lay_41 : decode cX5_lay 41 = .ok (.getfield 36, 3) := by decide +kernel
theorem dX5_lay_44 : decode cX5_lay 44 = .ok (.invokevirtual 89, 3) := by decide +kernel
theorem dX5_lay_47 : decode cX5_lay 47 = .ok (.aload_n 0, 1) := by decide +kernel
theorem dX5_lay_48 : decode cX5_lay 48 = .ok (.getfield 45, 3) := by decide +kernel
theorem dX5_lay_51 : decode cX5_lay 51 = .ok (.invokevirtual 90, 3) := by decide +kernel
theorem dX5_lay_54 : decode cX5_lay 54 = .ok (.aload_n 0, 1) := by decide +kernel
theorem dX5_lay_55 : decode cX5_lay 55 = .ok (.getfield 49, 3) := by decide +kernel
theorem dX5_lay_58 : decode cX5_lay 58 = .ok (.invokevirtual 90, 3) := by decide +kernel
theorem dX5_lay_61 : decode cX5_lay 61 = .ok (.aload_n 0, 1) := by decide +kernel
theorem dX5_lay_62 : decode cX5_lay 62 = .ok (.getfield 19, 3) := by decide +kernel
theorem dX5_lay_65 : decode cX5_lay 65 = .ok (.getfield 82, 3) := by decide +kernel
theorem dX5_lay_68 : decode cX5_lay 68 = .ok (.ireturn, 1) := by decide +kernel
theorem dX5_member_0 : decode cX5_member 0 = .ok (.aload_n 0, 1) := by decide +kernel
theorem dX5_member_1 : decode cX5_member 1 = .ok (.iload_n 1, 1) := by decide +kernel
theorem dX5_member_2 : decode cX5_member 2 = .ok (.invokevirtual 91, 3) := by decide +kernel
theorem dX5_member_5 : decode cX5_member 5 = .ok (.ifCond .eq 5, 3) := by decide +kernel
theorem dX5_member_8 : decode cX5_member 8 = .ok (.iconst (-1), 1) := by decide +kernel
theorem dX5_member_9 : decode cX5_member 9 = .ok (.ireturn, 1) := by decide +kernel
theorem dX5_member_10 : decode cX5_member 10 = .ok (.iload_n 2, 1) := by decide +kernel
theorem dX5_member_11 : decode cX5_member 11 = .ok (.tableswitch 96 0 5 #[37, 47, 57, 67, 77, 87], 37) := by decide +kernel
theorem dX5_member_48 : decode cX5_member 48 = .ok (.aload_n 0, 1) := by decide +kernel
theorem dX5_member_49 : decode cX5_member 49 = .ok (.getfield 19, 3) := by decide +kernel
theorem dX5_member_52 : decode cX5_member 52 = .ok (.getfield 95, 3) := by decide +kernel
theorem dX5_member_55 : decode cX5_member 55 = .ok (.iload_n 1, 1) := by decide +kernel
theorem dX5_member_56 : decode cX5_member 56 = .ok (.iaload, 1) := by decide +kernel
theorem dX5_member_57 : decode cX5_member 57 = .ok (.ireturn, 1) := by decide +kernel
theorem dX5_member_58 : decode cX5_member 58 = .ok (.aload_n 0, 1) := by decide +kernel
theorem dX5_member_59 : decode cX5_member 59 = .ok (.getfield 19, 3) := by decide +kernel
theorem dX5_member_62 : decode cX5_member 62 = .ok (.getfield 99, 3) := by decide +kernel
theorem dX5_member_65 : decode cX5_member 65 = .ok (.iload_n 1, 1) := by decide +kernel
theorem dX5_member_66 : decode cX5_member 66 = .ok (.iaload, 1) := by decide +kernel
theorem dX5_member_67 : decode cX5_member 67 = .ok (.ireturn, 1) := by decide +kernel
theorem dX5_member_68 : decode cX5_member 68 = .ok (.aload_n 0, 1) := by decide +kernel
theorem dX5_member_69 : decode cX5_member 69 = .ok (.getfield 19, 3) := by decide +kernel
theorem dX5_member_72 : decode cX5_member 72 = .ok (.getfield 102, 3) := by decide +kernel
theorem dX5_member_75 : decode cX5_member 75 = .ok (.iload_n 1, 1) := by decide +kernel
theorem dX5_member_76 : decode cX5_member 76 = .ok (.iaload, 1) := by decide +kernel
theorem dX5_member_77 : decode cX5_member 77 = .ok (.ireturn, 1) := by decide +kernel
theorem dX5_member_78 : decode cX5_member 78 = .ok (.aload_n 0, 1) := by decide +kernel
theorem dX5_member_79 : decode cX5_member 79 = .ok (.getfield 19, 3) := by decide +kernel
theorem dX5_member_82 : decode cX5_member 82 = .ok (.getfield 105, 3) := by decide +kernel
theorem dX5_member_85 : decode cX5_member 85 = .ok (.iload_n 1, 1) := by decide +kernel
theorem dX5_member_86 : decode cX5_member 86 = .ok (.iaload, 1) := by decide +kernel
theorem dX5_member_87 : decode cX5_member 87 = .ok (.ireturn, 1) := by decide +kernel
theorem dX5_member_88 : decode cX5_member 88 = .ok (.aload_n 0, 1) := by decide +kernel
theorem dX5_member_89 : decode cX5_member 89 = .ok (.getfield 19, 3) := by decide +kernel
theorem dX5_member_92 : decode cX5_member 92 = .ok (.getfield 108, 3) := by decide +kernel
theorem dX5_member_95 : decode cX5_member 95 = .ok (.iload_n 1, 1) := by decide +kernel
theorem dX5_member_96 : decode cX5_member 96 = .ok (.iaload, 1) := by decide +kernel
theorem dX5_member_97 : decode cX5_member 97 = .ok (.ireturn, 1) := by decide +kernel
theorem dX5_member_98 : decode cX5_member 98 = .ok (.aload_n 0, 1) := by decide +kernel
theorem dX5_member_99 : decode cX5_member 99 = .ok (.getfield 19, 3) := by decide +kernel
theorem dX5_member_102 : decode cX5_member 102 = .ok (.iload_n 1, 1) := by decide +kernel
theorem dX5_member_103 : decode cX5_member 103 = .ok (.invokevirtual 111, 3) := by decide +kernel
theorem dX5_member_106 : decode cX5_member 106 = .ok (.ireturn, 1) := by decide +kernel
theorem dX5_member_107 : decode cX5_member 107 = .ok (.iconst (-1), 1) := by decide +kernel
theorem dX5_member_108 : decode cX5_member 108 = .ok (.ireturn, 1) := by decide +kernel
theorem dX5_eat_0 : decode cX5_eat 0 = .ok (.iload_n 1, 1) := by decide +kernel
theorem dX5_eat_1 : decode cX5_eat 1 = .ok (.iconst 1, 1) := by decide +kernel
theorem dX5_eat_2 : decode cX5_eat 2 = .ok (.bipush 20, 2) := by decide +kernel
theorem dX5_eat_4 : decode cX5_eat 4 = .ok (.invokestatic 75, 3) := by decide +kernel
theorem dX5_eat_7 : decode cX5_eat 7 = .ok (.ifCond .eq 5, 3) := by decide +kernel
theorem dX5_eat_10 : decode cX5_eat 10 = .ok (.iconst (-1), 1) := by decide +kernel
theorem dX5_eat_11 : decode cX5_eat 11 = .ok (.ireturn, 1) := by decide +kernel
theorem dX5_eat_12 : decode cX5_eat 12 = .ok (.aload_n 0, 1) := by decide +kernel
theorem dX5_eat_13 : decode cX5_eat 13 = .ok (.getfield 45, 3) := by decide +kernel
theorem dX5_eat_16 : decode cX5_eat 16 = .ok (.aload_n 0, 1) := by decide +kernel
theorem dX5_eat_17 : decode cX5_eat 17 = .ok (.getfield 19, 3) := by decide +kernel
theorem dX5_eat_20 : decode cX5_eat 20 = .ok (.invokevirtual 115, 3) := by decide +kernel
theorem dX5_eat_23 : decode cX5_eat 23 = .ok (.aload_n 0, 1) := by decide +kernel
theorem dX5_eat_24 : decode cX5_eat 24 = .ok (.getfield 19, 3) := by decide +kernel
theorem dX5_eat_27 : decode cX5_eat 27 = .ok (.getfield 118, 3) := by decide +kernel
theorem dX5_eat_30 : decode cX5_eat 30 = .ok (.istore_n 2, 1) := by decide +kernel
theorem dX5_eat_31 : decode cX5_eat 31 = .ok (.aload_n 0, 1) := by decide +kernel
theorem dX5_eat_32 : decode cX5_eat 32 = .ok (.getfield 19, 3) := by decide +kernel
theorem dX5_eat_35 : decode cX5_eat 35 = .ok (.iload_n 1, 1) := by decide +kernel
theorem dX5_eat_36 : decode cX5_eat 36 = .ok (.invokevirtual 121, 3) := by decide +kernel
theorem dX5_eat_39 : decode cX5_eat 39 = .ok (.pop, 1) := by decide +kernel
theorem dX5_eat_40 : decode cX5_eat 40 = .ok (.iload_n 2, 1) := by decide +kernel
theorem dX5_eat_41 : decode cX5_eat 41 = .ok (.aload_n 0, 1) := by decide +kernel
theorem dX5_eat_42 : decode cX5_eat 42 = .ok (.getfield 19, 3) := by decide +kernel
theorem dX5_eat_45 : decode cX5_eat 45 = .ok (.getfield 118, 3) := by decide +kernel
theorem dX5_eat_48 : decode cX5_eat 48 = .ok (.isub, 1) := by decide +kernel
theorem dX5_eat_49 : decode cX5_eat 49 = .ok (.ireturn, 1) := by decide +kernel
theorem dX5_salt_0 : decode cX5_salt 0 = .ok (.aload_n 0, 1) := by decide +kernel
theorem dX5_salt_1 : decode cX5_salt 1 = .ok (.getfield 19, 3) := by decide +kernel
theorem dX5_salt_4 : decode cX5_salt 4 = .ok (.getfield 124, 3) := by decide +kernel
theorem dX5_salt_7 : decode cX5_salt 7 = .ok (.bipush 9, 2) := by decide +kernel
theorem dX5_salt_9 : decode cX5_salt 9 = .ok (.if_icmp .lt 6, 3) := by decide +kernel
theorem dX5_salt_12 : decode cX5_salt 12 = .ok (.bipush (-2), 2) := by decide +kernel
theorem dX5_salt_14 : decode cX5_salt 14 = .ok (.ireturn, 1) := by decide +kernel
theorem dX5_salt_15 : decode cX5_salt 15 = .ok (.aload_n 0, 1) := by decide +kernel
theorem dX5_salt_16 : decode cX5_salt 16 = .ok (.getfield 45, 3) := by decide +kernel
theorem dX5_salt_19 : decode cX5_salt 19 = .ok (.aload_n 0, 1) := by decide +kernel
theorem dX5_salt_20 : decode cX5_salt 20 = .ok (.getfield 19, 3) := by decide +kernel
theorem dX5_salt_23 : decode cX5_salt 23 = .ok (.invokevirtual 115, 3) := by decide +kernel
theorem dX5_salt_26 : decode cX5_salt 26 = .ok (.aload_n 0, 1) := by decide +kernel
theorem dX5_salt_27 : decode cX5_salt 27 = .ok (.getfield 19, 3) := by decide +kernel
theorem dX5_salt_30 : decode cX5_salt 30 = .ok (.invokevirtual 127, 3) := by decide +kernel
theorem dX5_salt_33 : decode cX5_salt 33 = .ok (.aload_n 0, 1) := by decide +kernel
theorem dX5_salt_34 : decode cX5_salt 34 = .ok (.getfield 19, 3) := by decide +kernel
theorem dX5_salt_37 : decode cX5_salt 37 = .ok (.getfield 124, 3) := by decide +kernel
theorem dX5_salt_40 : decode cX5_salt 40 = .ok (.ireturn, 1) := by decide +kernel
theorem dX5_cook_0 : decode cX5_cook 0 = .ok (.iload_n 1, 1) := by decide +kernel
theorem dX5_cook_1 : decode cX5_cook 1 = .ok (.iconst 1, 1) := by decide +kernel
theorem dX5_cook_2 : decode cX5_cook 2 = .ok (.bipush 99, 2) := by decide +kernel
theorem dX5_cook_4 : decode cX5_cook 4 = .ok (.invokestatic 75, 3) := by decide +kernel
theorem dX5_cook_7 : decode cX5_cook 7 = .ok (.ifCond .eq 5, 3) := by decide +kernel
theorem dX5_cook_10 : decode cX5_cook 10 = .ok (.iconst (-1), 1) := by decide +kernel
theorem dX5_cook_11 : decode cX5_cook 11 = .ok (.ireturn, 1) := by decide +kernel
theorem dX5_cook_12 : decode cX5_cook 12 = .ok (.iload_n 1, 1) := by decide +kernel
theorem dX5_cook_13 : decode cX5_cook 13 = .ok (.aload_n 0, 1) := by decide +kernel
theorem dX5_cook_14 : decode cX5_cook 14 = .ok (.getfield 19, 3) := by decide +kernel
theorem dX5_cook_17 : decode cX5_cook 17 = .ok (.getfield 118, 3) := by decide +kernel
theorem dX5_cook_20 : decode cX5_cook 20 = .ok (.if_icmp .gt 6, 3) := by decide +kernel
theorem dX5_cook_23 : decode cX5_cook 23 = .ok (.bipush (-2), 2) := by decide +kernel
theorem dX5_cook_25 : decode cX5_cook 25 = .ok (.ireturn, 1) := by decide +kernel
theorem dX5_cook_26 : decode cX5_cook 26 = .ok (.aload_n 0, 1) := by decide +kernel
theorem dX5_cook_27 : decode cX5_cook 27 = .ok (.getfield 45, 3) := by decide +kernel
theorem dX5_cook_30 : decode cX5_cook 30 = .ok (.aload_n 0, 1) := by decide +kernel
theorem dX5_cook_31 : decode cX5_cook 31 = .ok (.getfield 19, 3) := by decide +kernel
theorem dX5_cook_34 : decode cX5_cook 34 = .ok (.invokevirtual 115, 3) := by decide +kernel
theorem dX5_cook_37 : decode cX5_cook 37 = .ok (.aload_n 0, 1) := by decide +kernel
theorem dX5_cook_38 : decode cX5_cook 38 = .ok (.getfield 19, 3) := by decide +kernel
theorem dX5_cook_41 : decode cX5_cook 41 = .ok (.iload_n 1, 1) := by decide +kernel
theorem dX5_cook_42 : decode cX5_cook 42 = .ok (.invokevirtual 130, 3) := by decide +kernel
theorem dX5_cook_45 : decode cX5_cook 45 = .ok (.aload_n 0, 1) := by decide +kernel
theorem dX5_cook_46 : decode cX5_cook 46 = .ok (.getfield 19, 3) := by decide +kernel
theorem dX5_cook_49 : decode cX5_cook 49 = .ok (.getfield 118, 3) := by decide +kernel
theorem dX5_cook_52 : decode cX5_cook 52 = .ok (.ireturn, 1) := by decide +kernel
theorem dX5_cool_0 : decode cX5_cool 0 = .ok (.aload_n 0, 1) := by decide +kernel
theorem dX5_cool_1 : decode cX5_cool 1 = .ok (.getfield 19, 3) := by decide +kernel
theorem dX5_cool_4 : decode cX5_cool 4 = .ok (.getfield 133, 3) := by decide +kernel
theorem dX5_cool_7 : decode cX5_cool 7 = .ok (.ifCond .gt 6, 3) := by decide +kernel
theorem dX5_cool_10 : decode cX5_cool 10 = .ok (.bipush (-2), 2) := by decide +kernel
theorem dX5_cool_12 : decode cX5_cool 12 = .ok (.ireturn, 1) := by decide +kernel
theorem dX5_cool_13 : decode cX5_cool 13 = .ok (.aload_n 0, 1) := by decide +kernel
theorem dX5_cool_14 : decode cX5_cool 14 = .ok (.getfield 45, 3) := by decide +kernel
theorem dX5_cool_17 : decode cX5_cool 17 = .ok (.aload_n 0, 1) := by decide +kernel
theorem dX5_cool_18 : decode cX5_cool 18 = .ok (.getfield 19, 3) := by decide +kernel
theorem dX5_cool_21 : decode cX5_cool 21 = .ok (.invokevirtual 115, 3) := by decide +kernel
theorem dX5_cool_24 : decode cX5_cool 24 = .ok (.aload_n 0, 1) := by decide +kernel
theorem dX5_cool_25 : decode cX5_cool 25 = .ok (.getfield 19, 3) := by decide +kernel
theorem dX5_cool_28 : decode cX5_cool 28 = .ok (.invokevirtual 136, 3) := by decide +kernel
theorem dX5_cool_31 : decode cX5_cool 31 = .ok (.aload_n 0, 1) := by decide +kernel
theorem dX5_cool_32 : decode cX5_cool 32 = .ok (.getfield 19, 3) := by decide +kernel
theorem dX5_cool_35 : decode cX5_cool 35 = .ok (.getfield 133, 3) := by decide +kernel
theorem dX5_cool_38 : decode cX5_cool 38 = .ok (.ireturn, 1) := by decide +kernel
theorem dX5_trade_0 : decode cX5_trade 0 = .ok (.aload_n 0, 1) := by decide +kernel
theorem dX5_trade_1 : decode cX5_trade 1 = .ok (.iload_n 1, 1) := by decide +kernel
theorem dX5_trade_2 : decode cX5_trade 2 = .ok (.invokevirtual 91, 3) := by decide +kernel
theorem dX5_trade_5 : decode cX5_trade 5 = .ok (.ifCond .ne 16, 3) := by decide +kernel
theorem dX5_trade_8 : decode cX5_trade 8 = .ok (.aload_n 0, 1) := by decide +kernel
theorem dX5_trade_9 : decode cX5_trade 9 = .ok (.iload_n 2, 1) := by decide +kernel
theorem dX5_trade_10 : decode cX5_trade 10 = .ok (.invokevirtual 91, 3) := by decide +kernel
theorem dX5_trade_13 : decode cX5_trade 13 = .ok (.ifCond .ne 8, 3) := by decide +kernel
theorem dX5_trade_16 : decode cX5_trade 16 = .ok (.iload_n 1, 1) := by decide +kernel
theorem dX5_trade_17 : decode cX5_trade 17 = .ok (.iload_n 2, 1) := by decide +kernel
theorem dX5_trade_18 : decode cX5_trade 18 = .ok (.if_icmp .ne 5, 3) := by decide +kernel
theorem dX5_trade_21 : decode cX5_trade 21 = .ok (.iconst (-1), 1) := by decide +kernel
theorem dX5_trade_22 : decode cX5_trade 22 = .ok (.ireturn, 1) := by decide +kernel
theorem dX5_trade_23 : decode cX5_trade 23 = .ok (.aload_n 0, 1) := by decide +kernel
theorem dX5_trade_24 : decode cX5_trade 24 = .ok (.getfield 45, 3) := by decide +kernel
theorem dX5_trade_27 : decode cX5_trade 27 = .ok (.aload_n 0, 1) := by decide +kernel
theorem dX5_trade_28 : decode cX5_trade 28 = .ok (.getfield 19, 3) := by decide +kernel
theorem dX5_trade_31 : decode cX5_trade 31 = .ok (.invokevirtual 115, 3) := by decide +kernel
theorem dX5_trade_34 : decode cX5_trade 34 = .ok (.aload_n 0, 1) := by decide +kernel
theorem dX5_trade_35 : decode cX5_trade 35 = .ok (.getfield 19, 3) := by decide +kernel
theorem dX5_trade_38 : decode cX5_trade 38 = .ok (.iload_n 1, 1) := by decide +kernel
theorem dX5_trade_39 : decode cX5_trade 39 = .ok (.iload_n 2, 1) := by decide +kernel
theorem dX5_trade_40 : decode cX5_trade 40 = .ok (.invokevirtual 139, 3) := by decide +kernel
theorem dX5_trade_43 : decode cX5_trade 43 = .ok (.aload_n 0, 1) := by decide +kernel
theorem dX5_trade_44 : decode cX5_trade 44 = .ok (.getfield 19, 3) := by decide +kernel
theorem dX5_trade_47 : decode cX5_trade 47 = .ok (.getfield 99, 3) := by decide +kernel
theorem dX5_trade_50 : decode cX5_trade 50 = .ok (.iload_n 1, 1) := by decide +kernel
theorem dX5_trade_51 : decode cX5_trade 51 = .ok (.iaload, 1) := by decide +kernel
theorem dX5_trade_52 : decode cX5_trade 52 = .ok (.ireturn, 1) := by decide +kernel
theorem dX5_fast_0 : decode cX5_fast 0 = .ok (.aload_n 0, 1) := by decide +kernel
theorem dX5_fast_1 : decode cX5_fast 1 = .ok (.getfield 45, 3) := by decide +kernel
theorem dX5_fast_4 : decode cX5_fast 4 = .ok (.aload_n 0, 1) := by decide +kernel
theorem dX5_fast_5 : decode cX5_fast 5 = .ok (.getfield 19, 3) := by decide +kernel
theorem dX5_fast_8 : decode cX5_fast 8 = .ok (.invokevirtual 115, 3) := by decide +kernel
theorem dX5_fast_11 : decode cX5_fast 11 = .ok (.aload_n 0, 1) := by decide +kernel
theorem dX5_fast_12 : decode cX5_fast 12 = .ok (.getfield 19, 3) := by decide +kernel
theorem dX5_fast_15 : decode cX5_fast 15 = .ok (.invokevirtual 143, 3) := by decide +kernel
theorem dX5_fast_18 : decode cX5_fast 18 = .ok (.aload_n 0, 1) := by decide +kernel
theorem dX5_fast_19 : decode cX5_fast 19 = .ok (.getfield 19, 3) := by decide +kernel
theorem dX5_fast_22 : decode cX5_fast 22 = .ok (.invokevirtual 146, 3) := by decide +kernel
theorem dX5_fast_25 : decode cX5_fast 25 = .ok (.ireturn, 1) := by decide +kernel
theorem dX5_undo_0 : decode cX5_undo 0 = .ok (.aload_n 0, 1) := by decide +kernel
theorem dX5_undo_1 : decode cX5_undo 1 = .ok (.getfield 45, 3) := by decide +kernel
theorem dX5_undo_4 : decode cX5_undo 4 = .ok (.aload_n 0, 1) := by decide +kernel
theorem dX5_undo_5 : decode cX5_undo 5 = .ok (.getfield 19, 3) := by decide +kernel
theorem dX5_undo_8 : decode cX5_undo 8 = .ok (.invokevirtual 149, 3) := by decide +kernel
theorem dX5_undo_11 : decode cX5_undo 11 = .ok (.ifCond .eq 13, 3) := by decide +kernel
theorem dX5_undo_14 : decode cX5_undo 14 = .ok (.aload_n 0, 1) := by decide +kernel
theorem dX5_undo_15 : decode cX5_undo 15 = .ok (.getfield 45, 3) := by decide +kernel
theorem dX5_undo_18 : decode cX5_undo 18 = .ok (.getfield 153, 3) := by decide +kernel
theorem dX5_undo_21 : decode cX5_undo 21 = .ok (.goto 5, 3) := by decide +kernel
theorem dX5_undo_24 : decode cX5_undo 24 = .ok (.bipush (-2), 2) := by decide +kernel
theorem dX5_undo_26 : decode cX5_undo 26 = .ok (.ireturn, 1) := by decide +kernel
theorem dX5_passes_0 : decode cX5_passes 0 = .ok (.aload_n 0, 1) := by decide +kernel
theorem dX5_passes_1 : decode cX5_passes 1 = .ok (.getfield 23, 3) := by decide +kernel
theorem dX5_passes_4 : decode cX5_passes 4 = .ok (.aload_n 0, 1) := by decide +kernel
theorem dX5_passes_5 : decode cX5_passes 5 = .ok (.getfield 19, 3) := by decide +kernel
theorem dX5_passes_8 : decode cX5_passes 8 = .ok (.invokevirtual 85, 3) := by decide +kernel
theorem dX5_passes_11 : decode cX5_passes 11 = .ok (.aload_n 0, 1) := by decide +kernel
theorem dX5_passes_12 : decode cX5_passes 12 = .ok (.getfield 23, 3) := by decide +kernel
theorem dX5_passes_15 : decode cX5_passes 15 = .ok (.invokevirtual 156, 3) := by decide +kernel
theorem dX5_passes_18 : decode cX5_passes 18 = .ok (.ireturn, 1) := by decide +kernel
theorem dX5_left_0 : decode cX5_left 0 = .ok (.iload_n 1, 1) := by decide +kernel
theorem dX5_left_1 : decode cX5_left 1 = .ok (.iconst 0, 1) := by decide +kernel
theorem dX5_left_2 : decode cX5_left 2 = .ok (.bipush 20, 2) := by decide +kernel
theorem dX5_left_4 : decode cX5_left 4 = .ok (.invokestatic 75, 3) := by decide +kernel
theorem dX5_left_7 : decode cX5_left 7 = .ok (.ifCond .eq 5, 3) := by decide +kernel
theorem dX5_left_10 : decode cX5_left 10 = .ok (.iconst (-1), 1) := by decide +kernel
theorem dX5_left_11 : decode cX5_left 11 = .ok (.ireturn, 1) := by decide +kernel
theorem dX5_left_12 : decode cX5_left 12 = .ok (.aload_n 0, 1) := by decide +kernel
theorem dX5_left_13 : decode cX5_left 13 = .ok (.getfield 23, 3) := by decide +kernel
theorem dX5_left_16 : decode cX5_left 16 = .ok (.aload_n 0, 1) := by decide +kernel
theorem dX5_left_17 : decode cX5_left 17 = .ok (.getfield 19, 3) := by decide +kernel
theorem dX5_left_20 : decode cX5_left 20 = .ok (.invokevirtual 85, 3) := by decide +kernel
theorem dX5_left_23 : decode cX5_left 23 = .ok (.aload_n 0, 1) := by decide +kernel
theorem dX5_left_24 : decode cX5_left 24 = .ok (.getfield 23, 3) := by decide +kernel
theorem dX5_left_27 : decode cX5_left 27 = .ok (.iload_n 1, 1) := by decide +kernel
theorem dX5_left_28 : decode cX5_left 28 = .ok (.invokevirtual 121, 3) := by decide +kernel
theorem dX5_left_31 : decode cX5_left 31 = .ok (.pop, 1) := by decide +kernel
theorem dX5_left_32 : decode cX5_left 32 = .ok (.aload_n 0, 1) := by decide +kernel
theorem dX5_left_33 : decode cX5_left 33 = .ok (.getfield 23, 3) := by decide +kernel
theorem dX5_left_36 : decode cX5_left 36 = .ok (.getfield 118, 3) := by decide +kernel
theorem dX5_left_39 : decode cX5_left 39 = .ok (.ireturn, 1) := by decide +kernel
theorem dX5_scraper_0 : decode cX5_scraper 0 = .ok (.aload_n 0, 1) := by decide +kernel
theorem dX5_scraper_1 : decode cX5_scraper 1 = .ok (.getfield 23, 3) := by decide +kernel
theorem dX5_scraper_4 : decode cX5_scraper 4 = .ok (.aload_n 0, 1) := by decide +kernel
theorem dX5_scraper_5 : decode cX5_scraper 5 = .ok (.getfield 19, 3) := by decide +kernel
theorem dX5_scraper_8 : decode cX5_scraper 8 = .ok (.invokevirtual 85, 3) := by decide +kernel
theorem dX5_scraper_11 : decode cX5_scraper 11 = .ok (.aload_n 0, 1) := by decide +kernel
theorem dX5_scraper_12 : decode cX5_scraper 12 = .ok (.getfield 23, 3) := by decide +kernel
theorem dX5_scraper_15 : decode cX5_scraper 15 = .ok (.aload_n 0, 1) := by decide +kernel
theorem dX5_scraper_16 : decode cX5_scraper 16 = .ok (.getfield 19, 3) := by decide +kernel
theorem dX5_scraper_19 : decode cX5_scraper 19 = .ok (.getfield 159, 3) := by decide +kernel
theorem dX5_scraper_22 : decode cX5_scraper 22 = .ok (.invokevirtual 121, 3) := by decide +kernel
theorem dX5_scraper_25 : decode cX5_scraper 25 = .ok (.ireturn, 1) := by decide +kernel
theorem dX5_spoil_0 : decode cX5_spoil 0 = .ok (.aload_n 0, 1) := by decide +kernel
theorem dX5_spoil_1 : decode cX5_spoil 1 = .ok (.getfield 23, 3) := by decide +kernel
theorem dX5_spoil_4 : decode cX5_spoil 4 = .ok (.aload_n 0, 1) := by decide +kernel
theorem dX5_spoil_5 : decode cX5_spoil 5 = .ok (.getfield 19, 3) := by decide +kernel
theorem dX5_spoil_8 : decode cX5_spoil 8 = .ok (.invokevirtual 85, 3) := by decide +kernel
theorem dX5_spoil_11 : decode cX5_spoil 11 = .ok (.iconst 0, 1) := by decide +kernel
theorem dX5_spoil_12 : decode cX5_spoil 12 = .ok (.istore_n 1, 1) := by decide +kernel
theorem dX5_spoil_13 : decode cX5_spoil 13 = .ok (.aload_n 0, 1) := by decide +kernel
theorem dX5_spoil_14 : decode cX5_spoil 14 = .ok (.getfield 19, 3) := by decide +kernel
theorem dX5_spoil_17 : decode cX5_spoil 17 = .ok (.getfield 124, 3) := by decide +kernel
theorem dX5_spoil_20 : decode cX5_spoil 20 = .ok (.iload_n 1, 1) := by decide +kernel
theorem dX5_spoil_21 : decode cX5_spoil 21 = .ok (.iadd, 1) := by decide +kernel
theorem dX5_spoil_22 : decode cX5_spoil 22 = .ok (.bipush 9, 2) := by decide +kernel
theorem dX5_spoil_24 : decode cX5_spoil 24 = .ok (.if_icmp .gt 37, 3) := by decide +kernel
theorem dX5_spoil_27 : decode cX5_spoil 27 = .ok (.aload_n 0, 1) := by decide +kernel
theorem dX5_spoil_28 : decode cX5_spoil 28 = .ok (.getfield 23, 3) := by decide +kernel
theorem dX5_spoil_31 : decode cX5_spoil 31 = .ok (.aload_n 0, 1) := by decide +kernel
theorem dX5_spoil_32 : decode cX5_spoil 32 = .ok (.getfield 19, 3) := by decide +kernel
theorem dX5_spoil_35 : decode cX5_spoil 35 = .ok (.getfield 124, 3) := by decide +kernel
theorem dX5_spoil_38 : decode cX5_spoil 38 = .ok (.iload_n 1, 1) := by decide +kernel
theorem dX5_spoil_39 : decode cX5_spoil 39 = .ok (.iadd, 1) := by decide +kernel
theorem dX5_spoil_40 : decode cX5_spoil 40 = .ok (.putfield 124, 3) := by decide +kernel
theorem dX5_spoil_43 : decode cX5_spoil 43 = .ok (.aload_n 0, 1) := by decide +kernel
theorem dX5_spoil_44 : decode cX5_spoil 44 = .ok (.getfield 23, 3) := by decide +kernel
theorem dX5_spoil_47 : decode cX5_spoil 47 = .ok (.invokevirtual 162, 3) := by decide +kernel
theorem dX5_spoil_50 : decode cX5_spoil 50 = .ok (.ifCond .ne 5, 3) := by decide +kernel
theorem dX5_spoil_53 : decode cX5_spoil 53 = .ok (.iload_n 1, 1) := by decide +kernel
theorem dX5_spoil_54 : decode cX5_spoil 54 = .ok (.ireturn, 1) := by decide +kernel
theorem dX5_spoil_55 : decode cX5_spoil 55 = .ok (.iinc 1 1, 3) := by decide +kernel
theorem dX5_spoil_58 : decode cX5_spoil 58 = .ok (.goto (-45), 3) := by decide +kernel
theorem dX5_spoil_61 : decode cX5_spoil 61 = .ok (.bipush (-4), 2) := by decide +kernel
theorem dX5_spoil_63 : decode cX5_spoil 63 = .ok (.ireturn, 1) := by decide +kernel
theorem dX5_waits_0 : decode cX5_waits 0 = .ok (.aload_n 0, 1) := by decide +kernel
theorem dX5_waits_1 : decode cX5_waits 1 = .ok (.getfield 23, 3) := by decide +kernel
theorem dX5_waits_4 : decode cX5_waits 4 = .ok (.aload_n 0, 1) := by decide +kernel
theorem dX5_waits_5 : decode cX5_waits 5 = .ok (.getfield 19, 3) := by decide +kernel
theorem dX5_waits_8 : decode cX5_waits 8 = .ok (.invokevirtual 85, 3) := by decide +kernel
theorem dX5_waits_11 : decode cX5_waits 11 = .ok (.iconst 0, 1) := by decide +kernel
theorem dX5_waits_12 : decode cX5_waits 12 = .ok (.istore_n 1, 1) := by decide +kernel
theorem dX5_waits_13 : decode cX5_waits 13 = .ok (.iload_n 1, 1) := by decide +kernel
theorem dX5_waits_14 : decode cX5_waits 14 = .ok (.bipush 9, 2) := by decide +kernel
theorem dX5_waits_16 : decode cX5_waits 16 = .ok (.if_icmp .gt 28, 3) := by decide +kernel
theorem dX5_waits_19 : decode cX5_waits 19 = .ok (.aload_n 0, 1) := by decide +kernel
theorem dX5_waits_20 : decode cX5_waits 20 = .ok (.getfield 23, 3) := by decide +kernel
theorem dX5_waits_23 : decode cX5_waits 23 = .ok (.invokevirtual 162, 3) := by decide +kernel
theorem dX5_waits_26 : decode cX5_waits 26 = .ok (.ifCond .eq 5, 3) := by decide +kernel
theorem dX5_waits_29 : decode cX5_waits 29 = .ok (.iload_n 1, 1) := by decide +kernel
theorem dX5_waits_30 : decode cX5_waits 30 = .ok (.ireturn, 1) := by decide +kernel
theorem dX5_waits_31 : decode cX5_waits 31 = .ok (.aload_n 0, 1) := by decide +kernel
theorem dX5_waits_32 : decode cX5_waits 32 = .ok (.getfield 23, 3) := by decide +kernel
theorem dX5_waits_35 : decode cX5_waits 35 = .ok (.invokevirtual 136, 3) := by decide +kernel
theorem dX5_waits_38 : decode cX5_waits 38 = .ok (.iinc 1 1, 3) := by decide +kernel
theorem dX5_waits_41 : decode cX5_waits 41 = .ok (.goto (-28), 3) := by decide +kernel
theorem dX5_waits_44 : decode cX5_waits 44 = .ok (.bipush (-4), 2) := by decide +kernel
theorem dX5_waits_46 : decode cX5_waits 46 = .ok (.ireturn, 1) := by decide +kernel
theorem dX5_most_0 : decode cX5_most 0 = .ok (.bipush 99, 2) := by decide +kernel
theorem dX5_most_2 : decode cX5_most 2 = .ok (.aload_n 0, 1) := by decide +kernel
theorem dX5_most_3 : decode cX5_most 3 = .ok (.getfield 19, 3) := by decide +kernel
theorem dX5_most_6 : decode cX5_most 6 = .ok (.invokevirtual 166, 3) := by decide +kernel
theorem dX5_most_9 : decode cX5_most 9 = .ok (.invokestatic 169, 3) := by decide +kernel
theorem dX5_most_12 : decode cX5_most 12 = .ok (.ireturn, 1) := by decide +kernel
theorem dX5_fasts_0 : decode cX5_fasts 0 = .ok (.aload_n 0, 1) := by decide +kernel
theorem dX5_fasts_1 : decode cX5_fasts 1 = .ok (.getfield 23, 3) := by decide +kernel
theorem dX5_fasts_4 : decode cX5_fasts 4 = .ok (.aload_n 0, 1) := by decide +kernel
theorem dX5_fasts_5 : decode cX5_fasts 5 = .ok (.getfield 19, 3) := by decide +kernel
theorem dX5_fasts_8 : decode cX5_fasts 8 = .ok (.invokevirtual 85, 3) := by decide +kernel
theorem dX5_fasts_11 : decode cX5_fasts 11 = .ok (.iconst 0, 1) := by decide +kernel
theorem dX5_fasts_12 : decode cX5_fasts 12 = .ok (.istore_n 1, 1) := by decide +kernel
theorem dX5_fasts_13 : decode cX5_fasts 13 = .ok (.iload_n 1, 1) := by decide +kernel
theorem dX5_fasts_14 : decode cX5_fasts 14 = .ok (.bipush 10, 2) := by decide +kernel
theorem dX5_fasts_16 : decode cX5_fasts 16 = .ok (.if_icmp .gt 28, 3) := by decide +kernel
theorem dX5_fasts_19 : decode cX5_fasts 19 = .ok (.aload_n 0, 1) := by decide +kernel
theorem dX5_fasts_20 : decode cX5_fasts 20 = .ok (.getfield 23, 3) := by decide +kernel
theorem dX5_fasts_23 : decode cX5_fasts 23 = .ok (.invokevirtual 162, 3) := by decide +kernel
theorem dX5_fasts_26 : decode cX5_fasts 26 = .ok (.ifCond .eq 5, 3) := by decide +kernel
theorem dX5_fasts_29 : decode cX5_fasts 29 = .ok (.iload_n 1, 1) := by decide +kernel
theorem dX5_fasts_30 : decode cX5_fasts 30 = .ok (.ireturn, 1) := by decide +kernel
theorem dX5_fasts_31 : decode cX5_fasts 31 = .ok (.aload_n 0, 1) := by decide +kernel
theorem dX5_fasts_32 : decode cX5_fasts 32 = .ok (.getfield 23, 3) := by decide +kernel
theorem dX5_fasts_35 : decode cX5_fasts 35 = .ok (.invokevirtual 143, 3) := by decide +kernel
theorem dX5_fasts_38 : decode cX5_fasts 38 = .ok (.iinc 1 1, 3) := by decide +kernel
theorem dX5_fasts_41 : decode cX5_fasts 41 = .ok (.goto (-28), 3) := by decide +kernel
theorem dX5_fasts_44 : decode cX5_fasts 44 = .ok (.bipush (-4), 2) := by decide +kernel
theorem dX5_fasts_46 : decode cX5_fasts 46 = .ok (.ireturn, 1) := by decide +kernel
theorem dX5_cabal_0 : decode cX5_cabal 0 = .ok (.iload_n 1, 1) := by decide +kernel
theorem dX5_cabal_1 : decode cX5_cabal 1 = .ok (.iconst 0, 1) := by decide +kernel
theorem dX5_cabal_2 : decode cX5_cabal 2 = .ok (.iconst 1, 1) := by decide +kernel
theorem dX5_cabal_3 : decode cX5_cabal 3 = .ok (.invokestatic 75, 3) := by decide +kernel
theorem dX5_cabal_6 : decode cX5_cabal 6 = .ok (.ifCond .eq 5, 3) := by decide +kernel
theorem dX5_cabal_9 : decode cX5_cabal 9 = .ok (.iconst (-1), 1) := by decide +kernel
theorem dX5_cabal_10 : decode cX5_cabal 10 = .ok (.ireturn, 1) := by decide +kernel
theorem dX5_cabal_11 : decode cX5_cabal 11 = .ok (.aload_n 0, 1) := by decide +kernel
theorem dX5_cabal_12 : decode cX5_cabal 12 = .ok (.getfield 29, 3) := by decide +kernel
theorem dX5_cabal_15 : decode cX5_cabal 15 = .ok (.aload_n 0, 1) := by decide +kernel
theorem dX5_cabal_16 : decode cX5_cabal 16 = .ok (.getfield 19, 3) := by decide +kernel
theorem dX5_cabal_19 : decode cX5_cabal 19 = .ok (.invokevirtual 175, 3) := by decide +kernel
theorem dX5_cabal_22 : decode cX5_cabal 22 = .ok (.aload_n 0, 1) := by decide +kernel
theorem dX5_cabal_23 : decode cX5_cabal 23 = .ok (.getfield 29, 3) := by decide +kernel
theorem dX5_cabal_26 : decode cX5_cabal 26 = .ok (.invokevirtual 178, 3) := by decide +kernel
theorem dX5_cabal_29 : decode cX5_cabal 29 = .ok (.istore_n 2, 1) := by decide +kernel
theorem dX5_cabal_30 : decode cX5_cabal 30 = .ok (.iload_n 2, 1) := by decide +kernel
theorem dX5_cabal_31 : decode cX5_cabal 31 = .ok (.bipush (-4), 2) := by decide +kernel
theorem dX5_cabal_33 : decode cX5_cabal 33 = .ok (.if_icmp .ne 6, 3) := by decide +kernel
theorem dX5_cabal_36 : decode cX5_cabal 36 = .ok (.bipush (-4), 2) := by decide +kernel
theorem dX5_cabal_38 : decode cX5_cabal 38 = .ok (.ireturn, 1) := by decide +kernel
theorem dX5_cabal_39 : decode cX5_cabal 39 = .ok (.iload_n 1, 1) := by decide +kernel
theorem dX5_cabal_40 : decode cX5_cabal 40 = .ok (.ifCond .ne 10, 3) := by decide +kernel
theorem dX5_cabal_43 : decode cX5_cabal 43 = .ok (.iload_n 2, 1) := by decide +kernel
theorem dX5_cabal_44 : decode cX5_cabal 44 = .ok (.invokestatic 181, 3) := by decide +kernel
theorem dX5_cabal_47 : decode cX5_cabal 47 = .ok (.goto 4, 3) := by decide +kernel
theorem dX5_cabal_50 : decode cX5_cabal 50 = .ok (.iload_n 2, 1) := by decide +kernel
theorem dX5_cabal_51 : decode cX5_cabal 51 = .ok (.ireturn, 1) := by decide +kernel
theorem dX5_trades_0 : decode cX5_trades 0 = .ok (.aload_n 0, 1) := by decide +kernel
theorem dX5_trades_1 : decode cX5_trades 1 = .ok (.getfield 19, 3) := by decide +kernel
theorem dX5_trades_4 : decode cX5_trades 4 = .ok (.invokevirtual 162, 3) := by decide +kernel
theorem dX5_trades_7 : decode cX5_trades 7 = .ok (.ifCond .eq 6, 3) := by decide +kernel
theorem dX5_trades_10 : decode cX5_trades 10 = .ok (.bipush (-4), 2) := by decide +kernel
theorem dX5_trades_12 : decode cX5_trades 12 = .ok (.ireturn, 1) := by decide +kernel
theorem dX5_trades_13 : decode cX5_trades 13 = .ok (.iconst 0, 1) := by decide +kernel
theorem dX5_trades_14 : decode cX5_trades 14 = .ok (.istore_n 1, 1) := by decide +kernel
theorem dX5_trades_15 : decode cX5_trades 15 = .ok (.iload_n 1, 1) := by decide +kernel
theorem dX5_trades_16 : decode cX5_trades 16 = .ok (.aload_n 0, 1) := by decide +kernel
theorem dX5_trades_17 : decode cX5_trades 17 = .ok (.getfield 19, 3) := by decide +kernel
theorem dX5_trades_20 : decode cX5_trades 20 = .ok (.getfield 82, 3) := by decide +kernel
theorem dX5_trades_23 : decode cX5_trades 23 = .ok (.if_icmp .ge 67, 3) := by decide +kernel
theorem dX5_trades_26 : decode cX5_trades 26 = .ok (.iload_n 1, 1) := by decide +kernel
theorem dX5_trades_27 : decode cX5_trades 27 = .ok (.iconst 1, 1) := by decide +kernel
theorem dX5_trades_28 : decode cX5_trades 28 = .ok (.iadd, 1) := by decide +kernel
theorem dX5_trades_29 : decode cX5_trades 29 = .ok (.istore_n 2, 1) := by decide +kernel
theorem dX5_trades_30 : decode cX5_trades 30 = .ok (.iload_n 2, 1) := by decide +kernel
theorem dX5_trades_31 : decode cX5_trades 31 = .ok (.aload_n 0, 1) := by decide +kernel
theorem dX5_trades_32 : decode cX5_trades 32 = .ok (.getfield 19, 3) := by decide +kernel
theorem dX5_trades_35 : decode cX5_trades 35 = .ok (.getfield 82, 3) := by decide +kernel
theorem dX5_trades_38 : decode cX5_trades 38 = .ok (.if_icmp .ge 46, 3) := by decide +kernel
theorem dX5_trades_41 : decode cX5_trades 41 = .ok (.aload_n 0, 1) := by decide +kernel
theorem dX5_trades_42 : decode cX5_trades 42 = .ok (.getfield 23, 3) := by decide +kernel
theorem dX5_trades_45 : decode cX5_trades 45 = .ok (.aload_n 0, 1) := by decide +kernel
theorem dX5_trades_46 : decode cX5_trades 46 = .ok (.getfield 19, 3) := by decide +kernel
theorem dX5_trades_49 : decode cX5_trades 49 = .ok (.invokevirtual 85, 3) := by decide +kernel
theorem dX5_trades_52 : decode cX5_trades 52 = .ok (.aload_n 0, 1) := by decide +kernel
theorem dX5_trades_53 : decode cX5_trades 53 = .ok (.getfield 23, 3) := by decide +kernel
theorem dX5_trades_56 : decode cX5_trades 56 = .ok (.iload_n 1, 1) := by decide +kernel
theorem dX5_trades_57 : decode cX5_trades 57 = .ok (.iload_n 2, 1) := by decide +kernel
theorem dX5_trades_58 : decode cX5_trades 58 = .ok (.invokevirtual 139, 3) := by decide +kernel
theorem dX5_trades_61 : decode cX5_trades 61 = .ok (.aload_n 0, 1) := by decide +kernel
theorem dX5_trades_62 : decode cX5_trades 62 = .ok (.getfield 23, 3) := by decide +kernel
theorem dX5_trades_65 : decode cX5_trades 65 = .ok (.invokevirtual 162, 3) := by decide +kernel
theorem dX5_trades_68 : decode cX5_trades 68 = .ok (.ifCond .eq 10, 3) := by decide +kernel
theorem dX5_trades_71 : decode cX5_trades 71 = .ok (.bipush 10, 2) := by decide +kernel
theorem dX5_trades_73 : decode cX5_trades 73 = .ok (.iload_n 1, 1) := by decide +kernel
theorem dX5_trades_74 : decode cX5_trades 74 = .ok (.imul, 1) := by decide +kernel
theorem dX5_trades_75 : decode cX5_trades 75 = .ok (.iload_n 2, 1) := by decide +kernel
theorem dX5_trades_76 : decode cX5_trades 76 = .ok (.iadd, 1) := by decide +kernel
theorem dX5_trades_77 : decode cX5_trades 77 = .ok (.ireturn, 1) := by decide +kernel
theorem dX5_trades_78 : decode cX5_trades 78 = .ok (.iinc 2 1, 3) := by decide +kernel
theorem dX5_trades_81 : decode cX5_trades 81 = .ok (.goto (-51), 3) := by decide +kernel
theorem dX5_trades_84 : decode cX5_trades 84 = .ok (.iinc 1 1, 3) := by decide +kernel
theorem dX5_trades_87 : decode cX5_trades 87 = .ok (.goto (-72), 3) := by decide +kernel
theorem dX5_trades_90 : decode cX5_trades 90 = .ok (.bipush (-4), 2) := by decide +kernel
theorem dX5_trades_92 : decode cX5_trades 92 = .ok (.ireturn, 1) := by decide +kernel
theorem dX5_power_0 : decode cX5_power 0 = .ok (.aload_n 0, 1) := by decide +kernel
theorem dX5_power_1 : decode cX5_power 1 = .ok (.iload_n 1, 1) := by decide +kernel
theorem dX5_power_2 : decode cX5_power 2 = .ok (.invokevirtual 91, 3) := by decide +kernel
theorem dX5_power_5 : decode cX5_power 5 = .ok (.ifCond .ne 12, 3) := by decide +kernel
theorem dX5_power_8 : decode cX5_power 8 = .ok (.iload_n 2, 1) := by decide +kernel
theorem dX5_power_9 : decode cX5_power 9 = .ok (.iconst 0, 1) := by decide +kernel
theorem dX5_power_10 : decode cX5_power 10 = .ok (.iconst 1, 1) := by decide +kernel
theorem dX5_power_11 : decode cX5_power 11 = .ok (.invokestatic 75, 3) := by decide +kernel
theorem dX5_power_14 : decode cX5_power 14 = .ok (.ifCond .eq 5, 3) := by decide +kernel
theorem dX5_power_17 : decode cX5_power 17 = .ok (.iconst (-1), 1) := by decide +kernel
theorem dX5_power_18 : decode cX5_power 18 = .ok (.ireturn, 1) := by decide +kernel
theorem dX5_power_19 : decode cX5_power 19 = .ok (.aload_n 0, 1) := by decide +kernel
theorem dX5_power_20 : decode cX5_power 20 = .ok (.getfield 29, 3) := by decide +kernel
theorem dX5_power_23 : decode cX5_power 23 = .ok (.aload_n 0, 1) := by decide +kernel
theorem dX5_power_24 : decode cX5_power 24 = .ok (.getfield 19, 3) := by decide +kernel
theorem dX5_power_27 : decode cX5_power 27 = .ok (.invokevirtual 175, 3) := by decide +kernel
theorem dX5_power_30 : decode cX5_power 30 = .ok (.aload_n 0, 1) := by decide +kernel
theorem dX5_power_31 : decode cX5_power 31 = .ok (.getfield 29, 3) := by decide +kernel
theorem dX5_power_34 : decode cX5_power 34 = .ok (.iload_n 1, 1) := by decide +kernel
theorem dX5_power_35 : decode cX5_power 35 = .ok (.invokevirtual 186, 3) := by decide +kernel
theorem dX5_power_38 : decode cX5_power 38 = .ok (.aload_n 0, 1) := by decide +kernel
theorem dX5_power_39 : decode cX5_power 39 = .ok (.getfield 29, 3) := by decide +kernel
theorem dX5_power_42 : decode cX5_power 42 = .ok (.invokevirtual 189, 3) := by decide +kernel
theorem dX5_power_45 : decode cX5_power 45 = .ok (.iload_n 2, 1) := by decide +kernel
theorem dX5_power_46 : decode cX5_power 46 = .ok (.invokestatic 192, 3) := by decide +kernel
theorem dX5_power_49 : decode cX5_power 49 = .ok (.ireturn, 1) := by decide +kernel
theorem dX5_seen_0 : decode cX5_seen 0 = .ok (.aload_n 0, 1) := by decide +kernel
theorem dX5_seen_1 : decode cX5_seen 1 = .ok (.iload_n 1, 1) := by decide +kernel
theorem dX5_seen_2 : decode cX5_seen 2 = .ok (.invokevirtual 91, 3) := by decide +kernel
theorem dX5_seen_5 : decode cX5_seen 5 = .ok (.ifCond .ne 13, 3) := by decide +kernel
theorem dX5_seen_8 : decode cX5_seen 8 = .ok (.iload_n 2, 1) := by decide +kernel
theorem dX5_seen_9 : decode cX5_seen 9 = .ok (.iconst 0, 1) := by decide +kernel
theorem dX5_seen_10 : decode cX5_seen 10 = .ok (.bipush 18, 2) := by decide +kernel
theorem dX5_seen_12 : decode cX5_seen 12 = .ok (.invokestatic 75, 3) := by decide +kernel
theorem dX5_seen_15 : decode cX5_seen 15 = .ok (.ifCond .eq 5, 3) := by decide +kernel
theorem dX5_seen_18 : decode cX5_seen 18 = .ok (.iconst (-1), 1) := by decide +kernel
theorem dX5_seen_19 : decode cX5_seen 19 = .ok (.ireturn, 1) := by decide +kernel
theorem dX5_seen_20 : decode cX5_seen 20 = .ok (.aload_n 0, 1) := by decide +kernel
theorem dX5_seen_21 : decode cX5_seen 21 = .ok (.getfield 36, 3) := by decide +kernel
theorem dX5_seen_24 : decode cX5_seen 24 = .ok (.iload_n 1, 1) := by decide +kernel
theorem dX5_seen_25 : decode cX5_seen 25 = .ok (.iload_n 2, 1) := by decide +kernel
theorem dX5_seen_26 : decode cX5_seen 26 = .ok (.invokevirtual 196, 3) := by decide +kernel
theorem dX5_seen_29 : decode cX5_seen 29 = .ok (.ifCond .eq 13, 3) := by decide +kernel
theorem dX5_seen_32 : decode cX5_seen 32 = .ok (.aload_n 0, 1) := by decide +kernel
theorem dX5_seen_33 : decode cX5_seen 33 = .ok (.getfield 36, 3) := by decide +kernel
theorem dX5_seen_36 : decode cX5_seen 36 = .ok (.getfield 200, 3) := by decide +kernel
theorem dX5_seen_39 : decode cX5_seen 39 = .ok (.goto 5, 3) := by decide +kernel
theorem dX5_seen_42 : decode cX5_seen 42 = .ok (.bipush (-3), 2) := by decide +kernel
theorem dX5_seen_44 : decode cX5_seen 44 = .ok (.ireturn, 1) := by decide +kernel
theorem dX5_forget_0 : decode cX5_forget 0 = .ok (.aload_n 0, 1) := by decide +kernel
theorem dX5_forget_1 : decode cX5_forget 1 = .ok (.getfield 36, 3) := by decide +kernel
theorem dX5_forget_4 : decode cX5_forget 4 = .ok (.getfield 200, 3) := by decide +kernel
theorem dX5_forget_7 : decode cX5_forget 7 = .ok (.istore_n 1, 1) := by decide +kernel
theorem dX5_forget_8 : decode cX5_forget 8 = .ok (.aload_n 0, 1) := by decide +kernel
theorem dX5_forget_9 : decode cX5_forget 9 = .ok (.getfield 36, 3) := by decide +kernel
theorem dX5_forget_12 : decode cX5_forget 12 = .ok (.invokevirtual 89, 3) := by decide +kernel
theorem dX5_forget_15 : decode cX5_forget 15 = .ok (.iload_n 1, 1) := by decide +kernel
theorem dX5_forget_16 : decode cX5_forget 16 = .ok (.ireturn, 1) := by decide +kernel
theorem dX5_may_0 : decode cX5_may 0 = .ok (.iload_n 1, 1) := by decide +kernel
theorem dX5_may_1 : decode cX5_may 1 = .ok (.iconst 0, 1) := by decide +kernel
theorem dX5_may_2 : decode cX5_may 2 = .ok (.iconst 1, 1) := by decide +kernel
theorem dX5_may_3 : decode cX5_may 3 = .ok (.invokestatic 75, 3) := by decide +kernel
theorem dX5_may_6 : decode cX5_may 6 = .ok (.ifCond .eq 5, 3) := by decide +kernel
theorem dX5_may_9 : decode cX5_may 9 = .ok (.iconst (-1), 1) := by decide +kernel
theorem dX5_may_10 : decode cX5_may 10 = .ok (.ireturn, 1) := by decide +kernel
theorem dX5_may_11 : decode cX5_may 11 = .ok (.iconst 0, 1) := by decide +kernel
theorem dX5_may_12 : decode cX5_may 12 = .ok (.istore_n 2, 1) := by decide +kernel
theorem dX5_may_13 : decode cX5_may 13 = .ok (.iconst 0, 1) := by decide +kernel
theorem dX5_may_14 : decode cX5_may 14 = .ok (.istore_n 3, 1) := by decide +kernel
theorem dX5_may_15 : decode cX5_may 15 = .ok (.iload_n 3, 1) := by decide +kernel
theorem dX5_may_16 : decode cX5_may 16 = .ok (.bipush 9, 2) := by decide +kernel
theorem dX5_may_18 : decode cX5_may 18 = .ok (.if_icmp .gt 75, 3) := by decide +kernel
theorem dX5_may_21 : decode cX5_may 21 = .ok (.aload_n 0, 1) := by decide +kernel
theorem dX5_may_22 : decode cX5_may 22 = .ok (.getfield 23, 3) := by decide +kernel
theorem dX5_may_25 : decode cX5_may 25 = .ok (.aload_n 0, 1) := by decide +kernel
theorem dX5_may_26 : decode cX5_may 26 = .ok (.getfield 19, 3) := by decide +kernel
theorem dX5_may_29 : decode cX5_may 29 = .ok (.invokevirtual 85, 3) := by decide +kernel
theorem dX5_may_32 : decode cX5_may 32 = .ok (.iload_n 1, 1) := by decide +kernel
theorem dX5_may_33 : decode cX5_may 33 = .ok (.ifCond .ne 14, 3) := by decide +kernel
theorem dX5_may_36 : decode cX5_may 36 = .ok (.aload_n 0, 1) := by decide +kernel
theorem dX5_may_37 : decode cX5_may 37 = .ok (.getfield 23, 3) := by decide +kernel
theorem dX5_may_40 : decode cX5_may 40 = .ok (.iload_n 3, 1) := by decide +kernel
theorem dX5_may_41 : decode cX5_may 41 = .ok (.putfield 124, 3) := by decide +kernel
theorem dX5_may_44 : decode cX5_may 44 = .ok (.goto 11, 3) := by decide +kernel
theorem dX5_may_47 : decode cX5_may 47 = .ok (.aload_n 0, 1) := by decide +kernel
theorem dX5_may_48 : decode cX5_may 48 = .ok (.getfield 23, 3) := by decide +kernel
theorem dX5_may_51 : decode cX5_may 51 = .ok (.iload_n 3, 1) := by decide +kernel
theorem dX5_may_52 : decode cX5_may 52 = .ok (.putfield 133, 3) := by decide +kernel
theorem dX5_may_55 : decode cX5_may 55 = .ok (.aload_n 0, 1) := by decide +kernel
theorem dX5_may_56 : decode cX5_may 56 = .ok (.getfield 23, 3) := by decide +kernel
theorem dX5_may_59 : decode cX5_may 59 = .ok (.invokevirtual 201, 3) := by decide +kernel
theorem dX5_may_62 : decode cX5_may 62 = .ok (.pop, 1) := by decide +kernel
theorem dX5_may_63 : decode cX5_may 63 = .ok (.aload_n 0, 1) := by decide +kernel
theorem dX5_may_64 : decode cX5_may 64 = .ok (.getfield 36, 3) := by decide +kernel
theorem dX5_may_67 : decode cX5_may 67 = .ok (.aload_n 0, 1) := by decide +kernel
theorem dX5_may_68 : decode cX5_may 68 = .ok (.getfield 19, 3) := by decide +kernel
theorem dX5_may_71 : decode cX5_may 71 = .ok (.aload_n 0, 1) := by decide +kernel
theorem dX5_may_72 : decode cX5_may 72 = .ok (.getfield 23, 3) := by decide +kernel
theorem dX5_may_75 : decode cX5_may 75 = .ok (.invokevirtual 204, 3) := by decide +kernel
theorem dX5_may_78 : decode cX5_may 78 = .ok (.ifCond .eq 9, 3) := by decide +kernel
theorem dX5_may_81 : decode cX5_may 81 = .ok (.iload_n 2, 1) := by decide +kernel
theorem dX5_may_82 : decode cX5_may 82 = .ok (.iconst 1, 1) := by decide +kernel
theorem dX5_may_83 : decode cX5_may 83 = .ok (.iload_n 3, 1) := by decide +kernel
theorem dX5_may_84 : decode cX5_may 84 = .ok (.ishl, 1) := by decide +kernel
theorem dX5_may_85 : decode cX5_may 85 = .ok (.ior, 1) := by decide +kernel
theorem dX5_may_86 : decode cX5_may 86 = .ok (.istore_n 2, 1) := by decide +kernel
theorem dX5_may_87 : decode cX5_may 87 = .ok (.iinc 3 1, 3) := by decide +kernel
theorem dX5_may_90 : decode cX5_may 90 = .ok (.goto (-75), 3) := by decide +kernel
theorem dX5_may_93 : decode cX5_may 93 = .ok (.iload_n 2, 1) := by decide +kernel
theorem dX5_may_94 : decode cX5_may 94 = .ok (.ireturn, 1) := by decide +kernel
theorem dX5_likely_0 : decode cX5_likely 0 = .ok (.iload_n 1, 1) := by decide +kernel
theorem dX5_likely_1 : decode cX5_likely 1 = .ok (.iconst 0, 1) := by decide +kernel
theorem dX5_likely_2 : decode cX5_likely 2 = .ok (.bipush 10, 2) := by decide +kernel
theorem dX5_likely_4 : decode cX5_likely 4 = .ok (.invokestatic 75, 3) := by decide +kernel
theorem dX5_likely_7 : decode cX5_likely 7 = .ok (.ifCond .ne 12, 3) := by decide +kernel
theorem dX5_likely_10 : decode cX5_likely 10 = .ok (.iload_n 2, 1) := by decide +kernel
theorem dX5_likely_11 : decode cX5_likely 11 = .ok (.iconst 0, 1) := by decide +kernel
theorem dX5_likely_12 : decode cX5_likely 12 = .ok (.iconst 1, 1) := by decide +kernel
theorem dX5_likely_13 : decode cX5_likely 13 = .ok (.invokestatic 75, 3) := by decide +kernel
theorem dX5_likely_16 : decode cX5_likely 16 = .ok (.ifCond .eq 5, 3) := by decide +kernel
theorem dX5_likely_19 : decode cX5_likely 19 = .ok (.iconst (-1), 1) := by decide +kernel
theorem dX5_likely_20 : decode cX5_likely 20 = .ok (.ireturn, 1) := by decide +kernel
theorem dX5_likely_21 : decode cX5_likely 21 = .ok (.aload_n 0, 1) := by decide +kernel
theorem dX5_likely_22 : decode cX5_likely 22 = .ok (.getfield 29, 3) := by decide +kernel
theorem dX5_likely_25 : decode cX5_likely 25 = .ok (.aload_n 0, 1) := by decide +kernel
theorem dX5_likely_26 : decode cX5_likely 26 = .ok (.getfield 19, 3) := by decide +kernel
theorem dX5_likely_29 : decode cX5_likely 29 = .ok (.invokevirtual 175, 3) := by decide +kernel
theorem dX5_likely_32 : decode cX5_likely 32 = .ok (.aload_n 0, 1) := by decide +kernel
theorem dX5_likely_33 : decode cX5_likely 33 = .ok (.getfield 29, 3) := by decide +kernel
theorem dX5_likely_36 : decode cX5_likely 36 = .ok (.iload_n 1, 1) := by decide +kernel
theorem dX5_likely_37 : decode cX5_likely 37 = .ok (.invokevirtual 208, 3) := by decide +kernel
theorem dX5_likely_40 : decode cX5_likely 40 = .ok (.aload_n 0, 1) := by decide +kernel
theorem dX5_likely_41 : decode cX5_likely 41 = .ok (.getfield 29, 3) := by decide +kernel
theorem dX5_likely_44 : decode cX5_likely 44 = .ok (.invokevirtual 211, 3) := by decide +kernel
theorem dX5_likely_47 : decode cX5_likely 47 = .ok (.iload_n 2, 1) := by decide +kernel
theorem dX5_likely_48 : decode cX5_likely 48 = .ok (.invokestatic 192, 3) := by decide +kernel
theorem dX5_likely_51 : decode cX5_likely 51 = .ok (.ireturn, 1) := by decide +kernel
theorem dX5_century_0 : decode cX5_century 0 = .ok (.iload_n 1, 1) := by decide +kernel
theorem dX5_century_1 : decode cX5_century 1 = .ok (.iconst 0, 1) := by decide +kernel
theorem dX5_century_2 : decode cX5_century 2 = .ok (.sipush 9999, 3) := by decide +kernel
theorem dX5_century_5 : decode cX5_century 5 = .ok (.invokestatic 75, 3) := by decide +kernel
theorem dX5_century_8 : decode cX5_century 8 = .ok (.ifCond .ne 22, 3) := by decide +kernel
theorem dX5_century_11 : decode cX5_century 11 = .ok (.iload_n 2, 1) := by decide +kernel
theorem dX5_century_12 : decode cX5_century 12 = .ok (.iconst 1, 1) := by decide +kernel
theorem dX5_century_13 : decode cX5_century 13 = .ok (.bipush 40, 2) := by decide +kernel
theorem dX5_century_15 : decode cX5_century 15 = .ok (.invokestatic 75, 3) := by decide +kernel
theorem dX5_century_18 : decode cX5_century 18 = .ok (.ifCond .ne 12, 3) := by decide +kernel
theorem dX5_century_21 : decode cX5_century 21 = .ok (.iload_n 3, 1) := by decide +kernel
theorem dX5_century_22 : decode cX5_century 22 = .ok (.iconst 0, 1) := by decide +kernel
theorem dX5_century_23 : decode cX5_century 23 = .ok (.iconst 1, 1) := by decide +kernel
theorem dX5_century_24 : decode cX5_century 24 = .ok (.invokestatic 75, 3) := by decide +kernel
theorem dX5_century_27 : decode cX5_century 27 = .ok (.ifCond .eq 5, 3) := by decide +kernel
theorem dX5_century_30 : decode cX5_century 30 = .ok (.iconst (-1), 1) := by decide +kernel
theorem dX5_century_31 : decode cX5_century 31 = .ok (.ireturn, 1) := by decide +kernel
theorem dX5_century_32 : decode cX5_century 32 = .ok (.aload_n 0, 1) := by decide +kernel
theorem dX5_century_33 : decode cX5_century 33 = .ok (.getfield 23, 3) := by decide +kernel
theorem dX5_century_36 : decode cX5_century 36 = .ok (.aload_n 0, 1) := by decide +kernel
theorem dX5_century_37 : decode cX5_century 37 = .ok (.getfield 19, 3) := by decide +kernel
theorem dX5_century_40 : decode cX5_century 40 = .ok (.invokevirtual 85, 3) := by decide +kernel
theorem dX5_century_43 : decode cX5_century 43 = .ok (.iconst 0, 1) := by decide +kernel
theorem dX5_century_44 : decode cX5_century 44 = .ok (.istore 4, 2) := by decide +kernel
theorem dX5_century_46 : decode cX5_century 46 = .ok (.iload 4, 2) := by decide +kernel
theorem dX5_century_48 : decode cX5_century 48 = .ok (.iload_n 2, 1) := by decide +kernel
theorem dX5_century_49 : decode cX5_century 49 = .ok (.if_icmp .ge 22, 3) := by decide +kernel
theorem dX5_century_52 : decode cX5_century 52 = .ok (.aload_n 0, 1) := by decide +kernel
theorem dX5_century_53 : decode cX5_century 53 = .ok (.getfield 23, 3) := by decide +kernel
theorem dX5_century_56 : decode cX5_century 56 = .ok (.iload_n 1, 1) := by decide +kernel
theorem dX5_century_57 : decode cX5_century 57 = .ok (.iload 4, 2) := by decide +kernel
theorem dX5_century_59 : decode cX5_century 59 = .ok (.invokestatic 214, 3) := by decide +kernel
theorem dX5_century_62 : decode cX5_century 62 = .ok (.invokevirtual 217, 3) := by decide +kernel
theorem dX5_century_65 : decode cX5_century 65 = .ok (.iinc 4 1, 3) := by decide +kernel
theorem dX5_century_68 : decode cX5_century 68 = .ok (.goto (-22), 3) := by decide +kernel
theorem dX5_century_71 : decode cX5_century 71 = .ok (.iload_n 3, 1) := by decide +kernel
theorem dX5_century_72 : decode cX5_century 72 = .ok (.ifCond .ne 13, 3) := by decide +kernel
theorem dX5_century_75 : decode cX5_century 75 = .ok (.aload_n 0, 1) := by decide +kernel
theorem dX5_century_76 : decode cX5_century 76 = .ok (.getfield 23, 3) := by decide +kernel
theorem dX5_century_79 : decode cX5_century 79 = .ok (.getfield 118, 3) := by decide +kernel
theorem dX5_century_82 : decode cX5_century 82 = .ok (.goto 10, 3) := by decide +kernel
theorem dX5_century_85 : decode cX5_century 85 = .ok (.aload_n 0, 1) := by decide +kernel
theorem dX5_century_86 : decode cX5_century 86 = .ok (.getfield 23, 3) := by decide +kernel
theorem dX5_century_89 : decode cX5_century 89 = .ok (.invokevirtual 220, 3) := by decide +kernel
theorem dX5_century_92 : decode cX5_century 92 = .ok (.ireturn, 1) := by decide +kernel
theorem dX5_keep_0 : decode cX5_keep 0 = .ok (.aload_n 0, 1) := by decide +kernel
theorem dX5_keep_1 : decode cX5_keep 1 = .ok (.getfield 49, 3) := by decide +kernel
theorem dX5_keep_4 : decode cX5_keep 4 = .ok (.getfield 153, 3) := by decide +kernel
theorem dX5_keep_7 : decode cX5_keep 7 = .ok (.iconst 2, 1) := by decide +kernel
theorem dX5_keep_8 : decode cX5_keep 8 = .ok (.if_icmp .lt 6, 3) := by decide +kernel
theorem dX5_keep_11 : decode cX5_keep 11 = .ok (.bipush (-3), 2) := by decide +kernel
theorem dX5_keep_13 : decode cX5_keep 13 = .ok (.ireturn, 1) := by decide +kernel
theorem dX5_keep_14 : decode cX5_keep 14 = .ok (.aload_n 0, 1) := by decide +kernel
theorem dX5_keep_15 : decode cX5_keep 15 = .ok (.getfield 49, 3) := by decide +kernel
theorem dX5_keep_18 : decode cX5_keep 18 = .ok (.aload_n 0, 1) := by decide +kernel
theorem dX5_keep_19 : decode cX5_keep 19 = .ok (.getfield 19, 3) := by decide +kernel
theorem dX5_keep_22 : decode cX5_keep 22 = .ok (.invokevirtual 115, 3) := by decide +kernel
theorem dX5_keep_25 : decode cX5_keep 25 = .ok (.aload_n 0, 1) := by decide +kernel
theorem dX5_keep_26 : decode cX5_keep 26 = .ok (.getfield 49, 3) := by decide +kernel
theorem dX5_keep_29 : decode cX5_keep 29 = .ok (.getfield 153, 3) := by decide +kernel
theorem dX5_keep_32 : decode cX5_keep 32 = .ok (.ireturn, 1) := by decide +kernel
theorem dX5_back_0 : decode cX5_back 0 = .ok (.aload_n 0, 1) := by decide +kernel
theorem dX5_back_1 : decode cX5_back 1 = .ok (.getfield 49, 3) := by decide +kernel
theorem dX5_back_4 : decode cX5_back 4 = .ok (.aload_n 0, 1) := by decide +kernel
theorem dX5_back_5 : decode cX5_back 5 = .ok (.getfield 19, 3) := by decide +kernel
theorem dX5_back_8 : decode cX5_back 8 = .ok (.invokevirtual 149, 3) := by decide +kernel
theorem dX5_back_11 : decode cX5_back 11 = .ok (.ifCond .ne 6, 3) := by decide +kernel
theorem dX5_back_14 : decode cX5_back 14 = .ok (.bipush (-2), 2) := by decide +kernel
theorem dX5_back_16 : decode cX5_back 16 = .ok (.ireturn, 1) := by decide +kernel
theorem dX5_back_17 : decode cX5_back 17 = .ok (.aload_n 0, 1) := by decide +kernel
theorem dX5_back_18 : decode cX5_back 18 = .ok (.getfield 45, 3) := by decide +kernel
theorem dX5_back_21 : decode cX5_back 21 = .ok (.invokevirtual 90, 3) := by decide +kernel
theorem dX5_back_24 : decode cX5_back 24 = .ok (.aload_n 0, 1) := by decide +kernel
theorem dX5_back_25 : decode cX5_back 25 = .ok (.getfield 49, 3) := by decide +kernel
theorem dX5_back_28 : decode cX5_back 28 = .ok (.getfield 153, 3) := by decide +kernel
theorem dX5_back_31 : decode cX5_back 31 = .ok (.ireturn, 1) := by decide +kernel
theorem dX5_count_0 : decode cX5_count 0 = .ok (.iload_n 1, 1) := by decide +kernel
theorem dX5_count_1 : decode cX5_count 1 = .ok (.tableswitch 147 0 10 #[59, 67, 75, 83, 91, 99, 107, 115, 123, 131, 139], 59) := by decide +kernel
theorem dX5_count_60 : decode cX5_count 60 = .ok (.aload_n 0, 1) := by decide +kernel
theorem dX5_count_61 : decode cX5_count 61 = .ok (.getfield 19, 3) := by decide +kernel
theorem dX5_count_64 : decode cX5_count 64 = .ok (.getfield 82, 3) := by decide +kernel
theorem dX5_count_67 : decode cX5_count 67 = .ok (.ireturn, 1) := by decide +kernel
theorem dX5_count_68 : decode cX5_count 68 = .ok (.aload_n 0, 1) := by decide +kernel
theorem dX5_count_69 : decode cX5_count 69 = .ok (.getfield 19, 3) := by decide +kernel
theorem dX5_count_72 : decode cX5_count 72 = .ok (.getfield 118, 3) := by decide +kernel
theorem dX5_count_75 : decode cX5_count 75 = .ok (.ireturn, 1) := by decide +kernel
theorem dX5_count_76 : decode cX5_count 76 = .ok (.aload_n 0, 1) := by decide +kernel
theorem dX5_count_77 : decode cX5_count 77 = .ok (.getfield 19, 3) := by decide +kernel
theorem dX5_count_80 : decode cX5_count 80 = .ok (.getfield 133, 3) := by decide +kernel
theorem dX5_count_83 : decode cX5_count 83 = .ok (.ireturn, 1) := by decide +kernel
theorem dX5_count_84 : decode cX5_count 84 = .ok (.aload_n 0, 1) := by decide +kernel
theorem dX5_count_85 : decode cX5_count 85 = .ok (.getfield 19, 3) := by decide +kernel
theorem dX5_count_88 : decode cX5_count 88 = .ok (.getfield 124, 3) := by decide +kernel
theorem dX5_count_91 : decode cX5_count 91 = .ok (.ireturn, 1) := by decide +kernel
theorem dX5_count_92 : decode cX5_count 92 = .ok (.aload_n 0, 1) := by decide +kernel
theorem dX5_count_93 : decode cX5_count 93 = .ok (.getfield 19, 3) := by decide +kernel
theorem dX5_count_96 : decode cX5_count 96 = .ok (.getfield 159, 3) := by decide +kernel
theorem dX5_count_99 : decode cX5_count 99 = .ok (.ireturn, 1) := by decide +kernel
theorem dX5_count_100 : decode cX5_count 100 = .ok (.aload_n 0, 1) := by decide +kernel
theorem dX5_count_101 : decode cX5_count 101 = .ok (.getfield 19, 3) := by decide +kernel
theorem dX5_count_104 : decode cX5_count 104 = .ok (.invokevirtual 146, 3) := by decide +kernel
theorem dX5_count_107 : decode cX5_count 107 = .ok (.ireturn, 1) := by decide +kernel
theorem dX5_count_108 : decode cX5_count 108 = .ok (.aload_n 0, 1) := by decide +kernel
theorem dX5_count_109 : decode cX5_count 109 = .ok (.getfield 19, 3) := by decide +kernel
theorem dX5_count_112 : decode cX5_count 112 = .ok (.invokevirtual 220, 3) := by decide +kernel
theorem dX5_count_115 : decode cX5_count 115 = .ok (.ireturn, 1) := by decide +kernel
theorem dX5_count_116 : decode cX5_count 116 = .ok (.aload_n 0, 1) := by decide +kernel
theorem dX5_count_117 : decode cX5_count 117 = .ok (.getfield 36, 3) := by decide +kernel
theorem dX5_count_120 : decode cX5_count 120 = .ok (.getfield 200, 3) := by decide +kernel
theorem dX5_count_123 : decode cX5_count 123 = .ok (.ireturn, 1) := by decide +kernel
theorem dX5_count_124 : decode cX5_count 124 = .ok (.aload_n 0, 1) := by decide +kernel
theorem dX5_count_125 : decode cX5_count 125 = .ok (.getfield 45, 3) := by decide +kernel
theorem dX5_count_128 : decode cX5_count 128 = .ok (.getfield 153, 3) := by decide +kernel
theorem dX5_count_131 : decode cX5_count 131 = .ok (.ireturn, 1) := by decide +kernel
theorem dX5_count_132 : decode cX5_count 132 = .ok (.aload_n 0, 1) := by decide +kernel
theorem dX5_count_133 : decode cX5_count 133 = .ok (.getfield 49, 3) := by decide +kernel
theorem dX5_count_136 : decode cX5_count 136 = .ok (.getfield 153, 3) := by decide +kernel
theorem dX5_count_139 : decode cX5_count 139 = .ok (.ireturn, 1) := by decide +kernel
theorem dX5_count_140 : decode cX5_count 140 = .ok (.aload_n 0, 1) := by decide +kernel
theorem dX5_count_141 : decode cX5_count 141 = .ok (.getfield 10, 3) := by decide +kernel
theorem dX5_count_144 : decode cX5_count 144 = .ok (.getfield 79, 3) := by decide +kernel
theorem dX5_count_147 : decode cX5_count 147 = .ok (.ireturn, 1) := by decide +kernel
theorem dX5_count_148 : decode cX5_count 148 = .ok (.iconst (-1), 1) := by decide +kernel
theorem dX5_count_149 : decode cX5_count 149 = .ok (.ireturn, 1) := by decide +kernel
theorem dX5_isNoMember_0 : decode cX5_isNoMember 0 = .ok (.iload_n 1, 1) := by decide +kernel
theorem dX5_isNoMember_1 : decode cX5_isNoMember 1 = .ok (.iconst 0, 1) := by decide +kernel
theorem dX5_isNoMember_2 : decode cX5_isNoMember 2 = .ok (.aload_n 0, 1) := by decide +kernel
theorem dX5_isNoMember_3 : decode cX5_isNoMember 3 = .ok (.getfield 19, 3) := by decide +kernel
theorem dX5_isNoMember_6 : decode cX5_isNoMember 6 = .ok (.getfield 82, 3) := by decide +kernel
theorem dX5_isNoMember_9 : decode cX5_isNoMember 9 = .ok (.iconst 1, 1) := by decide +kernel
theorem dX5_isNoMember_10 : decode cX5_isNoMember 10 = .ok (.isub, 1) := by decide +kernel
theorem dX5_isNoMember_11 : decode cX5_isNoMember 11 = .ok (.invokestatic 75, 3) := by decide +kernel
theorem dX5_isNoMember_14 : decode cX5_isNoMember 14 = .ok (.ireturn, 1) := by decide +kernel
theorem dX5_isOutside_0 : decode cX5_isOutside 0 = .ok (.iload_n 0, 1) := by decide +kernel
theorem dX5_isOutside_1 : decode cX5_isOutside 1 = .ok (.iload_n 1, 1) := by decide +kernel
theorem dX5_isOutside_2 : decode cX5_isOutside 2 = .ok (.if_icmp .lt 8, 3) := by decide +kernel
theorem dX5_isOutside_5 : decode cX5_isOutside 5 = .ok (.iload_n 0, 1) := by decide +kernel
theorem dX5_isOutside_6 : decode cX5_isOutside 6 = .ok (.iload_n 2, 1) := by decide +kernel
theorem dX5_isOutside_7 : decode cX5_isOutside 7 = .ok (.if_icmp .le 7, 3) := by decide +kernel
theorem dX5_isOutside_10 : decode cX5_isOutside 10 = .ok (.iconst 1, 1) := by decide +kernel
theorem dX5_isOutside_11 : decode cX5_isOutside 11 = .ok (.goto 4, 3) := by decide +kernel
theorem dX5_isOutside_14 : decode cX5_isOutside 14 = .ok (.iconst 0, 1) := by decide +kernel
theorem dX5_isOutside_15 : decode cX5_isOutside 15 = .ok (.ireturn, 1) := by decide +kernel
theorem dX5_draw_0 : decode cX5_draw 0 = .ok (.ldc2_w 223, 3) := by decide +kernel
theorem dX5_draw_3 : decode cX5_draw 3 = .ok (.iload_n 0, 1) := by decide +kernel
theorem dX5_draw_4 : decode cX5_draw 4 = .ok (.i2l, 1) := by decide +kernel
theorem dX5_draw_5 : decode cX5_draw 5 = .ok (.lmul, 1) := by decide +kernel
theorem dX5_draw_6 : decode cX5_draw 6 = .ok (.ldc2_w 225, 3) := by decide +kernel
theorem dX5_draw_9 : decode cX5_draw 9 = .ok (.iload_n 1, 1) := by decide +kernel
theorem dX5_draw_10 : decode cX5_draw 10 = .ok (.i2l, 1) := by decide +kernel
theorem dX5_draw_11 : decode cX5_draw 11 = .ok (.lmul, 1) := by decide +kernel
theorem dX5_draw_12 : decode cX5_draw 12 = .ok (.ladd, 1) := by decide +kernel
theorem dX5_draw_13 : decode cX5_draw 13 = .ok (.lconst 1, 1) := by decide +kernel
theorem dX5_draw_14 : decode cX5_draw 14 = .ok (.ladd, 1) := by decide +kernel
theorem dX5_draw_15 : decode cX5_draw 15 = .ok (.lstore_n 2, 1) := by decide +kernel
theorem dX5_draw_16 : decode cX5_draw 16 = .ok (.lload_n 2, 1) := by decide +kernel
theorem dX5_draw_17 : decode cX5_draw 17 = .ok (.lload_n 2, 1) := by decide +kernel
theorem dX5_draw_18 : decode cX5_draw 18 = .ok (.lmul, 1) := by decide +kernel
theorem dX5_draw_19 : decode cX5_draw 19 = .ok (.ldc2_w 227, 3) := by decide +kernel
theorem dX5_draw_22 : decode cX5_draw 22 = .ok (.lrem, 1) := by decide +kernel
theorem dX5_draw_23 : decode cX5_draw 23 = .ok (.ldc2_w 229, 3) := by decide +kernel
theorem dX5_draw_26 : decode cX5_draw 26 = .ok (.ldiv, 1) := by decide +kernel
theorem dX5_draw_27 : decode cX5_draw 27 = .ok (.l2i, 1) := by decide +kernel
theorem dX5_draw_28 : decode cX5_draw 28 = .ok (.ireturn, 1) := by decide +kernel
theorem dX5_inLowestTerms_0 : decode cX5_inLowestTerms 0 = .ok (.iload_n 0, 1) := by decide +kernel
theorem dX5_inLowestTerms_1 : decode cX5_inLowestTerms 1 = .ok (.iload_n 1, 1) := by decide +kernel
theorem dX5_inLowestTerms_2 : decode cX5_inLowestTerms 2 = .ok (.invokestatic 231, 3) := by decide +kernel
theorem dX5_inLowestTerms_5 : decode cX5_inLowestTerms 5 = .ok (.istore_n 3, 1) := by decide +kernel
theorem dX5_inLowestTerms_6 : decode cX5_inLowestTerms 6 = .ok (.iload_n 3, 1) := by decide +kernel
theorem dX5_inLowestTerms_7 : decode cX5_inLowestTerms 7 = .ok (.ifCond .ne 5, 3) := by decide +kernel
theorem dX5_inLowestTerms_10 : decode cX5_inLowestTerms 10 = .ok (.iconst 0, 1) := by decide +kernel
theorem dX5_inLowestTerms_11 : decode cX5_inLowestTerms 11 = .ok (.ireturn, 1) := by decide +kernel
theorem dX5_inLowestTerms_12 : decode cX5_inLowestTerms 12 = .ok (.iload_n 2, 1) := by decide +kernel
theorem dX5_inLowestTerms_13 : decode cX5_inLowestTerms 13 = .ok (.ifCond .ne 7, 3) := by decide +kernel
theorem dX5_inLowestTerms_16 : decode cX5_inLowestTerms 16 = .ok (.iload_n 0, 1) := by decide +kernel
theorem dX5_inLowestTerms_17 : decode cX5_inLowestTerms 17 = .ok (.goto 4, 3) := by decide +kernel
theorem dX5_inLowestTerms_20 : decode cX5_inLowestTerms 20 = .ok (.iload_n 1, 1) := by decide +kernel
theorem dX5_inLowestTerms_21 : decode cX5_inLowestTerms 21 = .ok (.iload_n 3, 1) := by decide +kernel
theorem dX5_inLowestTerms_22 : decode cX5_inLowestTerms 22 = .ok (.idiv, 1) := by decide +kernel
theorem dX5_inLowestTerms_23 : decode cX5_inLowestTerms 23 = .ok (.ireturn, 1) := by decide +kernel
theorem dX5_commonDivisor_0 : decode cX5_commonDivisor 0 = .ok (.iload_n 0, 1) := by decide +kernel
theorem dX5_commonDivisor_1 : decode cX5_commonDivisor 1 = .ok (.istore_n 2, 1) := by decide +kernel
theorem dX5_commonDivisor_2 : decode cX5_commonDivisor 2 = .ok (.iload_n 1, 1) := by decide +kernel
theorem dX5_commonDivisor_3 : decode cX5_commonDivisor 3 = .ok (.istore_n 3, 1) := by decide +kernel
theorem dX5_commonDivisor_4 : decode cX5_commonDivisor 4 = .ok (.iconst 0, 1) := by decide +kernel
theorem dX5_commonDivisor_5 : decode cX5_commonDivisor 5 = .ok (.istore 4, 2) := by decide +kernel
theorem dX5_commonDivisor_7 : decode cX5_commonDivisor 7 = .ok (.iload 4, 2) := by decide +kernel
theorem dX5_commonDivisor_9 : decode cX5_commonDivisor 9 = .ok (.bipush 64, 2) := by decide +kernel
theorem dX5_commonDivisor_11 : decode cX5_commonDivisor 11 = .ok (.if_icmp .ge 23, 3) := by decide +kernel
theorem dX5_commonDivisor_14 : decode cX5_commonDivisor 14 = .ok (.iload_n 3, 1) := by decide +kernel
theorem dX5_commonDivisor_15 : decode cX5_commonDivisor 15 = .ok (.ifCond .eq 19, 3) := by decide +kernel
theorem dX5_commonDivisor_18 : decode cX5_commonDivisor 18 = .ok (.iload_n 2, 1) := by decide +kernel
theorem dX5_commonDivisor_19 : decode cX5_commonDivisor 19 = .ok (.iload_n 3, 1) := by decide +kernel
theorem dX5_commonDivisor_20 : decode cX5_commonDivisor 20 = .ok (.irem, 1) := by decide +kernel
theorem dX5_commonDivisor_21 : decode cX5_commonDivisor 21 = .ok (.istore 5, 2) := by decide +kernel
theorem dX5_commonDivisor_23 : decode cX5_commonDivisor 23 = .ok (.iload_n 3, 1) := by decide +kernel
theorem dX5_commonDivisor_24 : decode cX5_commonDivisor 24 = .ok (.istore_n 2, 1) := by decide +kernel
theorem dX5_commonDivisor_25 : decode cX5_commonDivisor 25 = .ok (.iload 5, 2) := by decide +kernel
theorem dX5_commonDivisor_27 : decode cX5_commonDivisor 27 = .ok (.istore_n 3, 1) := by decide +kernel
theorem dX5_commonDivisor_28 : decode cX5_commonDivisor 28 = .ok (.iinc 4 1, 3) := by decide +kernel
theorem dX5_commonDivisor_31 : decode cX5_commonDivisor 31 = .ok (.goto (-24), 3) := by decide +kernel
theorem dX5_commonDivisor_34 : decode cX5_commonDivisor 34 = .ok (.iload_n 2, 1) := by decide +kernel
theorem dX5_commonDivisor_35 : decode cX5_commonDivisor 35 = .ok (.ireturn, 1) := by decide +kernel
end
section
theorem dX6_init_0 : decode cX6_init 0 = .ok (.aload_n 0, 1) := by decide +kernel
theorem dX6_init_1 : decode cX6_init 1 = .ok (.invokespecial 1, 3) := by decide +kernel
theorem dX6_init_4 : decode cX6_init 4 = .ok (.aload_n 0, 1) := by decide +kernel
theorem dX6_init_5 : decode cX6_init 5 = .ok (.sipush 200, 3) := by decide +kernel
theorem dX6_init_8 : decode cX6_init 8 = .ok (.newarray .int, 2) := by decide +kernel
theorem dX6_init_10 : decode cX6_init 10 = .ok (.putfield 7, 3) := by decide +kernel
theorem dX6_init_13 : decode cX6_init 13 = .ok (.aload_n 0, 1) := by decide +kernel
theorem dX6_init_14 : decode cX6_init 14 = .ok (.bipush 10, 2) := by decide +kernel
theorem dX6_init_16 : decode cX6_init 16 = .ok (.newarray .int, 2) := by decide +kernel
theorem dX6_init_18 : decode cX6_init 18 = .ok (.putfield 13, 3) := by decide +kernel
theorem dX6_init_21 : decode cX6_init 21 = .ok (.aload_n 0, 1) := by decide +kernel
theorem dX6_init_22 : decode cX6_init 22 = .ok (.bipush 10, 2) := by decide +kernel
theorem dX6_init_24 : decode cX6_init 24 = .ok (.newarray .int, 2) := by decide +kernel
theorem dX6_init_26 : decode cX6_init 26 = .ok (.putfield 16, 3) := by decide +kernel
theorem dX6_init_29 : decode cX6_init 29 = .ok (.aload_n 0, 1) := by decide +kernel
theorem dX6_init_30 : decode cX6_init 30 = .ok (.bipush 31, 2) := by decide +kernel
theorem dX6_init_32 : decode cX6_init 32 = .ok (.newarray .int, 2) := by decide +kernel
theorem dX6_init_34 : decode cX6_init 34 = .ok (.putfield 19, 3) := by decide +kernel
theorem dX6_init_37 : decode cX6_init 37 = .ok (.aload_n 0, 1) := by decide +kernel
theorem dX6_init_38 : decode cX6_init 38 = .ok (.bipush 31, 2) := by decide +kernel
theorem dX6_init_40 : decode cX6_init 40 = .ok (.newarray .int, 2) := by decide +kernel
theorem dX6_init_42 : decode cX6_init 42 = .ok (.putfield 22, 3) := by decide +kernel
theorem dX6_init_45 : decode cX6_init 45 = .ok (.aload_n 0, 1) := by decide +kernel
theorem dX6_init_46 : decode cX6_init 46 = .ok (.sipush 248, 3) := by decide +kernel
theorem dX6_init_49 : decode cX6_init 49 = .ok (.newarray .int, 2) := by decide +kernel
theorem dX6_init_51 : decode cX6_init 51 = .ok (.putfield 25, 3) := by decide +kernel
theorem dX6_init_54 : decode cX6_init 54 = .ok (.aload_n 0, 1) := by decide +kernel
theorem dX6_init_55 : decode cX6_init 55 = .ok (.bipush 62, 2) := by decide +kernel
theorem dX6_init_57 : decode cX6_init 57 = .ok (.newarray .int, 2) := by decide +kernel
theorem dX6_init_59 : decode cX6_init 59 = .ok (.putfield 28, 3) := by decide +kernel
theorem dX6_init_62 : decode cX6_init 62 = .ok (.aload_n 0, 1) := by decide +kernel
theorem dX6_init_63 : decode cX6_init 63 = .ok (.bipush 6, 2) := by decide +kernel
theorem dX6_init_65 : decode cX6_init 65 = .ok (.newarray .int, 2) := by decide +kernel
theorem dX6_init_67 : decode cX6_init 67 = .ok (.putfield 31, 3) := by decide +kernel
theorem dX6_init_70 : decode cX6_init 70 = .ok (.aload_n 0, 1) := by decide +kernel
theorem dX6_init_71 : decode cX6_init 71 = .ok (.bipush 31, 2) := by decide +kernel
theorem dX6_init_73 : decode cX6_init 73 = .ok (.newarray .int, 2) := by decide +kernel
theorem dX6_init_75 : decode cX6_init 75 = .ok (.putfield 34, 3) := by decide +kernel
theorem dX6_init_78 : decode cX6_init 78 = .ok (.aload_n 0, 1) := by decide +kernel
theorem dX6_init_79 : decode cX6_init 79 = .ok (.bipush 31, 2) := by decide +kernel
theorem dX6_init_81 : decode cX6_init 81 = .ok (.newarray .int, 2) := by decide +kernel
theorem dX6_init_83 : decode cX6_init 83 = .ok (.putfield 37, 3) := by decide +kernel
theorem dX6_init_86 : decode cX6_init 86 = .ok (.aload_n 0, 1) := by decide +kernel
theorem dX6_init_87 : decode cX6_init 87 = .ok (.invokevirtual 40, 3) := by decide +kernel
theorem dX6_init_90 : decode cX6_init 90 = .ok (.aload_n 0, 1) := by decide +kernel
theorem dX6_init_91 : decode cX6_init 91 = .ok (.iconst 0, 1) := by decide +kernel
theorem dX6_init_92 : decode cX6_init 92 = .ok (.iconst 3, 1) := by decide +kernel
theorem dX6_init_93 : decode cX6_init 93 = .ok (.bipush 12, 2) := by decide +kernel
theorem dX6_init_95 : decode cX6_init 95 = .ok (.bipush 6, 2) := by decide +kernel
theorem dX6_init_97 : decode cX6_init 97 = .ok (.invokevirtual 43, 3) := by decide +kernel
theorem dX6_init_100 : decode cX6_init 100 = .ok (.aload_n 0, 1) := by decide +kernel
theorem dX6_init_101 : decode cX6_init 101 = .ok (.iconst 1, 1) := by decide +kernel
theorem dX6_init_102 : decode cX6_init 102 = .ok (.iconst 4, 1) := by decide +kernel
theorem dX6_init_103 : decode cX6_init 103 = .ok (.bipush 20, 2) := by decide +kernel
theorem dX6_init_105 : decode cX6_init 105 = .ok (.iconst 3, 1) := by decide +kernel
theorem dX6_init_106 : decode cX6_init 106 = .ok (.invokevirtual 43, 3) := by decide +kernel
theorem dX6_init_109 : decode cX6_init 109 = .ok (.aload_n 0, 1) := by decide +kernel
theorem dX6_init_110 : decode cX6_init 110 = .ok (.iconst 2, 1) := by decide +kernel
theorem dX6_init_111 : decode cX6_init 111 = .ok (.iconst 2, 1) := by decide +kernel
theorem dX6_init_112 : decode cX6_init 112 = .ok (.bipush 9, 2) := by decide +kernel
theorem dX6_init_114 : decode cX6_init 114 = .ok (.iconst 5, 1) := by decide +kernel
theorem dX6_init_115 : decode cX6_init 115 = .ok (.invokevirtual 43, 3) := by decide +kernel
theorem dX6_init_118 : decode cX6_init 118 = .ok (.aload_n 0, 1) := by decide +kernel
theorem dX6_init_119 : decode cX6_init 119 = .ok (.iconst 3, 1) := by decide +kernel
theorem dX6_init_120 : decode cX6_init 120 = .ok (.iconst 5, 1) := by decide +kernel
theorem dX6_init_121 : decode cX6_init 121 = .ok (.bipush 30, 2) := by decide +kernel
theorem dX6_init_123 : decode cX6_init 123 = .ok (.bipush 9, 2) := by decide +kernel
theorem dX6_init_125 : decode cX6_init 125 = .ok (.invokevirtual 43, 3) := by decide +kernel
theorem dX6_init_128 : decode cX6_init 128 = .ok (.aload_n 0, 1) := by decide +kernel
theorem dX6_init_129 : decode cX6_init 129 = .ok (.iconst 0, 1) := by decide +kernel
theorem dX6_init_130 : decode cX6_init 130 = .ok (.iconst 1, 1) := by decide +kernel
theorem dX6_init_131 : decode cX6_init 131 = .ok (.bipush 8, 2) := by decide +kernel
theorem dX6_init_133 : decode cX6_init 133 = .ok (.iconst 2, 1) := by decide +kernel
theorem dX6_init_134 : decode cX6_init 134 = .ok (.invokevirtual 43, 3) := by decide +kernel
theorem dX6_init_137 : decode cX6_init 137 = .ok (.aload_n 0, 1) := by decide +kernel
theorem dX6_init_138 : decode cX6_init 138 = .ok (.getfield 19, 3) := by decide +kernel
theorem dX6_init_141 : decode cX6_init 141 = .ok (.bipush 28, 2) := by decide +kernel
theorem dX6_init_143 : decode cX6_init 143 = .ok (.bipush 40, 2) := by decide +kernel
theorem dX6_init_145 : decode cX6_init 145 = .ok (.iastore, 1) := by decide +kernel
theorem dX6_init_146 : decode cX6_init 146 = .ok (.aload_n 0, 1) := by decide +kernel
theorem dX6_init_147 : decode cX6_init 147 = .ok (.getfield 19, 3) := by decide +kernel
theorem dX6_init_150 : decode cX6_init 150 = .ok (.bipush 29, 2) := by decide +kernel
theorem dX6_init_152 : decode cX6_init 152 = .ok (.bipush 6, 2) := by decide +kernel
theorem dX6_init_154 : decode cX6_init 154 = .ok (.iastore, 1) := by decide +kernel
theorem dX6_init_155 : decode cX6_init 155 = .ok (.aload_n 0, 1) := by decide +kernel
theorem dX6_init_156 : decode cX6_init 156 = .ok (.getfield 19, 3) := by decide +kernel
theorem dX6_init_159 : decode cX6_init 159 = .ok (.bipush 30, 2) := by decide +kernel
theorem dX6_init_161 : decode cX6_init 161 = .ok (.iconst 2, 1) := by decide +kernel
theorem dX6_init_162 : decode cX6_init 162 = .ok (.iastore, 1) := by decide +kernel
theorem dX6_init_163 : decode cX6_init 163 = .ok (.aload_n 0, 1) := by decide +kernel
theorem dX6_init_164 : decode cX6_init 164 = .ok (.invokevirtual 47, 3) := by decide +kernel
theorem dX6_init_167 : decode cX6_init 167 = .ok (.return_, 1) := by decide +kernel
theorem dX6_in_0 : decode cX6_in 0 = .ok (.iload_n 0, 1) := by decide +kernel
theorem dX6_in_1 : decode cX6_in 1 = .ok (.iload_n 1, 1) := by decide +kernel
theorem dX6_in_2 : decode cX6_in 2 = .ok (.if_icmp .lt 12, 3) := by decide +kernel
theorem dX6_in_5 : decode cX6_in 5 = .ok (.iload_n 0, 1) := by decide +kernel
theorem dX6_in_6 : decode cX6_in 6 = .ok (.iload_n 2, 1) := by decide +kernel
theorem dX6_in_7 : decode cX6_in 7 = .ok (.if_icmp .gt 7, 3) := by decide +kernel
theorem dX6_in_10 : decode cX6_in 10 = .ok (.iconst 1, 1) := by decide +kernel
theorem dX6_in_11 : decode cX6_in 11 = .ok (.goto 4, 3) := by decide +kernel
theorem dX6_in_14 : decode cX6_in 14 = .ok (.iconst 0, 1) := by decide +kernel
theorem dX6_in_15 : decode cX6_in 15 = .ok (.ireturn, 1) := by decide +kernel
theorem dX6_isMember_0 : decode cX6_isMember 0 = .ok (.iload_n 1, 1) := by decide +kernel
theorem dX6_isMember_1 : decode cX6_isMember 1 = .ok (.iconst 0, 1) := by decide +kernel
theorem dX6_isMember_2 : decode cX6_isMember 2 = .ok (.aload_n 0, 1) := by decide +kernel
theorem dX6_isMember_3 : decode cX6_isMember 3 = .ok (.getfield 13, 3) := by decide +kernel
theorem dX6_isMember_6 : decode cX6_isMember 6 = .ok (.iconst 0, 1) := by decide +kernel
theorem dX6_isMember_7 : decode cX6_isMember 7 = .ok (.iaload, 1) := by decide +kernel
theorem dX6_isMember_8 : decode cX6_isMember 8 = .ok (.iconst 1, 1) := by decide +kernel
theorem dX6_isMember_9 : decode cX6_isMember 9 = .ok (.isub, 1) := by decide +kernel
theorem dX6_isMember_10 : decode cX6_isMember 10 = .ok (.invokestatic 50, 3) := by decide +kernel
theorem dX6_isMember_13 : decode cX6_isMember 13 = .ok (.ireturn, 1) := by decide +kernel
theorem dX6_all_0 : decode cX6_all 0 = .ok (.iconst 1, 1) := by decide +kernel
theorem dX6_all_1 : decode cX6_all 1 = .ok (.aload_n 0, 1) := by decide +kernel
theorem dX6_all_2 : decode cX6_all 2 = .ok (.getfield 13, 3) := by decide +kernel
theorem dX6_all_5 : decode cX6_all 5 = .ok (.iconst 0, 1) := by decide +kernel
theorem dX6_all_6 : decode cX6_all 6 = .ok (.iaload, 1) := by decide +kernel
theorem dX6_all_7 : decode cX6_all 7 = .ok (.ishl, 1) := by decide +kernel
theorem dX6_all_8 : decode cX6_all 8 = .ok (.iconst 1, 1) := by decide +kernel
theorem dX6_all_9 : decode cX6_all 9 = .ok (.isub, 1) := by decide +kernel
theorem dX6_all_10 : decode cX6_all 10 = .ok (.ireturn, 1) := by decide +kernel
theorem dX6_ones_0 : decode cX6_ones 0 = .ok (.iconst 0, 1) := by decide +kernel
theorem dX6_ones_1 : decode cX6_ones 1 = .ok (.istore_n 1, 1) := by decide +kernel
theorem dX6_ones_2 : decode cX6_ones 2 = .ok (.iconst 0, 1) := by decide +kernel
theorem dX6_ones_3 : decode cX6_ones 3 = .ok (.istore_n 2, 1) := by decide +kernel
theorem dX6_ones_4 : decode cX6_ones 4 = .ok (.iload_n 2, 1) := by decide +kernel
theorem dX6_ones_5 : decode cX6_ones 5 = .ok (.bipush 7, 2) := by decide +kernel
theorem dX6_ones_7 : decode cX6_ones 7 = .ok (.if_icmp .ge 17, 3) := by decide +kernel
theorem dX6_ones_10 : decode cX6_ones 10 = .ok (.iload_n 1, 1) := by decide +kernel
theorem dX6_ones_11 : decode cX6_ones 11 = .ok (.iload_n 0, 1) := by decide +kernel
theorem dX6_ones_12 : decode cX6_ones 12 = .ok (.iload_n 2, 1) := by decide +kernel
theorem dX6_ones_13 : decode cX6_ones 13 = .ok (.ishr, 1) := by decide +kernel
theorem dX6_ones_14 : decode cX6_ones 14 = .ok (.iconst 1, 1) := by decide +kernel
theorem dX6_ones_15 : decode cX6_ones 15 = .ok (.iand, 1) := by decide +kernel
theorem dX6_ones_16 : decode cX6_ones 16 = .ok (.iadd, 1) := by decide +kernel
theorem dX6_ones_17 : decode cX6_ones 17 = .ok (.istore_n 1, 1) := by decide +kernel
theorem dX6_ones_18 : decode cX6_ones 18 = .ok (.iinc 2 1, 3) := by decide +kernel
theorem dX6_ones_21 : decode cX6_ones 21 = .ok (.goto (-17), 3) := by decide +kernel
theorem dX6_ones_24 : decode cX6_ones 24 = .ok (.iload_n 1, 1) := by decide +kernel
theorem dX6_ones_25 : decode cX6_ones 25 = .ok (.ireturn, 1) := by decide +kernel
theorem dX6_write_0 : decode cX6_write 0 = .ok (.iload_n 1, 1) := by decide +kernel
theorem dX6_write_1 : decode cX6_write 1 = .ok (.bipush 32, 2) := by decide +kernel
theorem dX6_write_3 : decode cX6_write 3 = .ok (.bipush 126, 2) := by decide +kernel
theorem dX6_write_5 : decode cX6_write 5 = .ok (.invokestatic 50, 3) := by decide +kernel
theorem dX6_write_8 : decode cX6_write 8 = .ok (.ifCond .ne 5, 3) := by decide +kernel
theorem dX6_write_11 : decode cX6_write 11 = .ok (.iconst (-1), 1) := by decide +kernel
theorem dX6_write_12 : decode cX6_write 12 = .ok (.ireturn, 1) := by decide +kernel
theorem dX6_write_13 : decode cX6_write 13 = .ok (.aload_n 0, 1) := by decide +kernel
theorem dX6_write_14 : decode cX6_write 14 = .ok (.getfield 54, 3) := by decide +kernel
theorem dX6_write_17 : decode cX6_write 17 = .ok (.sipush 200, 3) := by decide +kernel
theorem dX6_write_20 : decode cX6_write 20 = .ok (.if_icmp .ne 6, 3) := by decide +kernel
theorem dX6_write_23 : decode cX6_write 23 = .ok (.bipush (-3), 2) := by decide +kernel
theorem dX6_write_25 : decode cX6_write 25 = .ok (.ireturn, 1) := by decide +kernel
theorem dX6_write_26 : decode cX6_write 26 = .ok (.aload_n 0, 1) := by decide +kernel
theorem dX6_write_27 : decode cX6_write 27 = .ok (.getfield 7, 3) := by decide +kernel
theorem dX6_write_30 : decode cX6_write 30 = .ok (.aload_n 0, 1) := by decide +kernel
theorem dX6_write_31 : decode cX6_write 31 = .ok (.getfield 54, 3) := by decide +kernel
theorem dX6_write_34 : decode cX6_write 34 = .ok (.iload_n 1, 1) := by decide +kernel
theorem dX6_write_35 : decode cX6_write 35 = .ok (.iastore, 1) := by decide +kernel
theorem dX6_write_36 : decode cX6_write 36 = .ok (.aload_n 0, 1) := by decide +kernel
theorem dX6_write_37 : decode cX6_write 37 = .ok (.dup, 1) := by decide +kernel
theorem dX6_write_38 : decode cX6_write 38 = .ok (.getfield 54, 3) := by decide +kernel
theorem dX6_write_41 : decode cX6_write 41 = .ok (.iconst 1, 1) := by decide +kernel
theorem dX6_write_42 : decode cX6_write 42 = .ok (.iadd, 1) := by decide +kernel
theorem dX6_write_43 : decode cX6_write 43 = .ok (.putfield 54, 3) := by decide +kernel
theorem dX6_write_46 : decode cX6_write 46 = .ok (.aload_n 0, 1) := by decide +kernel
theorem dX6_write_47 : decode cX6_write 47 = .ok (.getfield 54, 3) := by decide +kernel
theorem dX6_write_50 : decode cX6_write 50 = .ok (.ireturn, 1) := by decide +kernel
theorem dX6_wipe_0 : decode cX6_wipe 0 = .ok (.aload_n 0, 1) := by decide +kernel
theorem dX6_wipe_1 : decode cX6_wipe 1 = .ok (.getfield 54, 3) := by decide +kernel
theorem dX6_wipe_4 : decode cX6_wipe 4 = .ok (.istore_n 1, 1) := by decide +kernel
theorem dX6_wipe_5 : decode cX6_wipe 5 = .ok (.aload_n 0, 1) := by decide +kernel
theorem dX6_wipe_6 : decode cX6_wipe 6 = .ok (.iconst 0, 1) := by decide +kernel
theorem dX6_wipe_7 : decode cX6_wipe 7 = .ok (.putfield 54, 3) := by decide +kernel
theorem dX6_wipe_10 : decode cX6_wipe 10 = .ok (.iload_n 1, 1) := by decide +kernel
theorem dX6_wipe_11 : decode cX6_wipe 11 = .ok (.ireturn, 1) := by decide +kernel
theorem dX6_letterAt_0 : decode cX6_letterAt 0 = .ok (.iload_n 1, 1) := by decide +kernel
theorem dX6_letterAt_1 : decode cX6_letterAt 1 = .ok (.aload_n 0, 1) := by decide +kernel
theorem dX6_letterAt_2 : decode cX6_letterAt 2 = .ok (.getfield 54, 3) := by decide +kernel
theorem dX6_letterAt_5 : decode cX6_letterAt 5 = .ok (.if_icmp .ge 12, 3) := by decide +kernel
theorem dX6_letterAt_8 : decode cX6_letterAt 8 = .ok (.aload_n 0, 1) := by decide +kernel
theorem dX6_letterAt_9 : decode cX6_letterAt 9 = .ok (.getfield 7, 3) := by decide +kernel
theorem dX6_letterAt_12 : decode cX6_letterAt 12 = .ok (.iload_n 1, 1) := by decide +kernel
theorem dX6_letterAt_13 : decode cX6_letterAt 13 = .ok (.iaload, 1) := by decide +kernel
theorem dX6_letterAt_14 : decode cX6_letterAt 14 = .ok (.goto 4, 3) := by decide +kernel
theorem dX6_letterAt_17 : decode cX6_letterAt 17 = .ok (.iconst (-1), 1) := by decide +kernel
theorem dX6_letterAt_18 : decode cX6_letterAt 18 = .ok (.ireturn, 1) := by decide +kernel
theorem dX6_isFigure_0 : decode cX6_isFigure 0 = .ok (.iload_n 0, 1) := by decide +kernel
theorem dX6_isFigure_1 : decode cX6_isFigure 1 = .ok (.bipush 48, 2) := by decide +kernel
theorem dX6_isFigure_3 : decode cX6_isFigure 3 = .ok (.bipush 57, 2) := by decide +kernel
theorem dX6_isFigure_5 : decode cX6_isFigure 5 = .ok (.invokestatic 50, 3) := by decide +kernel
theorem dX6_isFigure_8 : decode cX6_isFigure 8 = .ok (.ireturn, 1) := by decide +kernel
theorem dX6_number_0 : decode cX6_number 0 = .ok (.aload_n 0, 1) := by decide +kernel
theorem dX6_number_1 : decode cX6_number 1 = .ok (.aload_n 0, 1) := by decide +kernel
theorem dX6_number_2 : decode cX6_number 2 = .ok (.getfield 58, 3) := by decide +kernel
theorem dX6_number_5 : decode cX6_number 5 = .ok (.invokevirtual 61, 3) := by decide +kernel
theorem dX6_number_8 : decode cX6_number 8 = .ok (.invokestatic 65, 3) := by decide +kernel
theorem dX6_number_11 : decode cX6_number 11 = .ok (.ifCond .ne 5, 3) := by decide +kernel
theorem dX6_number_14 : decode cX6_number 14 = .ok (.iconst (-1), 1) := by decide +kernel
theorem dX6_number_15 : decode cX6_number 15 = .ok (.ireturn, 1) := by decide +kernel
theorem dX6_number_16 : decode cX6_number 16 = .ok (.aload_n 0, 1) := by decide +kernel
theorem dX6_number_17 : decode cX6_number 17 = .ok (.aload_n 0, 1) := by decide +kernel
theorem dX6_number_18 : decode cX6_number 18 = .ok (.getfield 58, 3) := by decide +kernel
theorem dX6_number_21 : decode cX6_number 21 = .ok (.invokevirtual 61, 3) := by decide +kernel
theorem dX6_number_24 : decode cX6_number 24 = .ok (.bipush 48, 2) := by decide +kernel
theorem dX6_number_26 : decode cX6_number 26 = .ok (.isub, 1) := by decide +kernel
theorem dX6_number_27 : decode cX6_number 27 = .ok (.istore 4, 2) := by decide +kernel
theorem dX6_number_29 : decode cX6_number 29 = .ok (.aload_n 0, 1) := by decide +kernel
theorem dX6_number_30 : decode cX6_number 30 = .ok (.dup, 1) := by decide +kernel
theorem dX6_number_31 : decode cX6_number 31 = .ok (.getfield 58, 3) := by decide +kernel
theorem dX6_number_34 : decode cX6_number 34 = .ok (.iconst 1, 1) := by decide +kernel
theorem dX6_number_35 : decode cX6_number 35 = .ok (.iadd, 1) := by decide +kernel
theorem dX6_number_36 : decode cX6_number 36 = .ok (.putfield 58, 3) := by decide +kernel
theorem dX6_number_39 : decode cX6_number 39 = .ok (.aload_n 0, 1) := by decide +kernel
theorem dX6_number_40 : decode cX6_number 40 = .ok (.aload_n 0, 1) := by decide +kernel
theorem dX6_number_41 : decode cX6_number 41 = .ok (.getfield 58, 3) := by decide +kernel
theorem dX6_number_44 : decode cX6_number 44 = .ok (.invokevirtual 61, 3) := by decide +kernel
theorem dX6_number_47 : decode cX6_number 47 = .ok (.invokestatic 65, 3) := by decide +kernel
theorem dX6_number_50 : decode cX6_number 50 = .ok (.ifCond .eq 32, 3) := by decide +kernel
theorem dX6_number_53 : decode cX6_number 53 = .ok (.bipush 10, 2) := by decide +kernel
theorem dX6_number_55 : decode cX6_number 55 = .ok (.iload 4, 2) := by decide +kernel
theorem dX6_number_57 : decode cX6_number 57 = .ok (.imul, 1) := by decide +kernel
theorem dX6_number_58 : decode cX6_number 58 = .ok (.aload_n 0, 1) := by decide +kernel
theorem dX6_number_59 : decode cX6_number 59 = .ok (.aload_n 0, 1) := by decide +kernel
theorem dX6_number_60 : decode cX6_number 60 = .ok (.getfield 58, 3) := by decide +kernel
theorem dX6_number_63 : decode cX6_number 63 = .ok (.invokevirtual 61, 3) := by decide +kernel
theorem dX6_number_66 : decode cX6_number 66 = .ok (.iadd, 1) := by decide +kernel
theorem dX6_number_67 : decode cX6_number 67 = .ok (.bipush 48, 2) := by decide +kernel
theorem dX6_number_69 : decode cX6_number 69 = .ok (.isub, 1) := by decide +kernel
theorem dX6_number_70 : decode cX6_number 70 = .ok (.istore 4, 2) := by decide +kernel
theorem dX6_number_72 : decode cX6_number 72 = .ok (.aload_n 0, 1) := by decide +kernel
theorem dX6_number_73 : decode cX6_number 73 = .ok (.dup, 1) := by decide +kernel
theorem dX6_number_74 : decode cX6_number 74 = .ok (.getfield 58, 3) := by decide +kernel
theorem dX6_number_77 : decode cX6_number 77 = .ok (.iconst 1, 1) := by decide +kernel
theorem dX6_number_78 : decode cX6_number 78 = .ok (.iadd, 1) := by decide +kernel
theorem dX6_number_79 : decode cX6_number 79 = .ok (.putfield 58, 3) := by decide +kernel
theorem dX6_number_82 : decode cX6_number 82 = .ok (.aload_n 0, 1) := by decide +kernel
theorem dX6_number_83 : decode cX6_number 83 = .ok (.aload_n 0, 1) := by decide +kernel
theorem dX6_number_84 : decode cX6_number 84 = .ok (.getfield 58, 3) := by decide +kernel
theorem dX6_number_87 : decode cX6_number 87 = .ok (.invokevirtual 61, 3) := by decide +kernel
theorem dX6_number_90 : decode cX6_number 90 = .ok (.iload_n 3, 1) := by decide +kernel
theorem dX6_number_91 : decode cX6_number 91 = .ok (.if_icmp .ne 17, 3) := by decide +kernel
theorem dX6_number_94 : decode cX6_number 94 = .ok (.iload 4, 2) := by decide +kernel
theorem dX6_number_96 : decode cX6_number 96 = .ok (.iload_n 1, 1) := by decide +kernel
theorem dX6_number_97 : decode cX6_number 97 = .ok (.iload_n 2, 1) := by decide +kernel
theorem dX6_number_98 : decode cX6_number 98 = .ok (.invokestatic 50, 3) := by decide +kernel
theorem dX6_number_101 : decode cX6_number 101 = .ok (.ifCond .eq 7, 3) := by decide +kernel
theorem dX6_number_104 : decode cX6_number 104 = .ok (.iconst 1, 1) := by decide +kernel
theorem dX6_number_105 : decode cX6_number 105 = .ok (.goto 4, 3) := by decide +kernel
theorem dX6_number_108 : decode cX6_number 108 = .ok (.iconst 0, 1) := by decide +kernel
theorem dX6_number_109 : decode cX6_number 109 = .ok (.istore 5, 2) := by decide +kernel
theorem dX6_number_111 : decode cX6_number 111 = .ok (.aload_n 0, 1) := by decide +kernel
theorem dX6_number_112 : decode cX6_number 112 = .ok (.dup, 1) := by decide +kernel
theorem dX6_number_113 : decode cX6_number 113 = .ok (.getfield 58, 3) := by decide +kernel
theorem dX6_number_116 : decode cX6_number 116 = .ok (.iconst 1, 1) := by decide +kernel
theorem dX6_number_117 : decode cX6_number 117 = .ok (.iadd, 1) := by decide +kernel
theorem dX6_number_118 : decode cX6_number 118 = .ok (.putfield 58, 3) := by decide +kernel
theorem dX6_number_121 : decode cX6_number 121 = .ok (.iload 5, 2) := by decide +kernel
theorem dX6_number_123 : decode cX6_number 123 = .ok (.ifCond .eq 8, 3) := by decide +kernel
theorem dX6_number_126 : decode cX6_number 126 = .ok (.iload 4, 2) := by decide +kernel
theorem dX6_number_128 : decode cX6_number 128 = .ok (.goto 4, 3) := by decide +kernel
theorem dX6_number_131 : decode cX6_number 131 = .ok (.iconst (-1), 1) := by decide +kernel
theorem dX6_number_132 : decode cX6_number 132 = .ok (.ireturn, 1) := by decide +kernel
theorem dX6_begins_0 : decode cX6_begins 0 = .ok (.iconst 0, 1) := by decide +kernel
theorem dX6_begins_1 : decode cX6_begins 1 = .ok (.istore_n 1, 1) := by decide +kernel
theorem dX6_begins_2 : decode cX6_begins 2 = .ok (.iload_n 1, 1) := by decide +kernel
theorem dX6_begins_3 : decode cX6_begins 3 = .ok (.bipush 10, 2) := by decide +kernel
theorem dX6_begins_5 : decode cX6_begins 5 = .ok (.if_icmp .ge 16, 3) := by decide +kernel
theorem dX6_begins_8 : decode cX6_begins 8 = .ok (.aload_n 0, 1) := by decide +kernel
theorem dX6_begins_9 : decode cX6_begins 9 = .ok (.getfield 16, 3) := by decide +kernel
theorem dX6_begins_12 : decode cX6_begins 12 = .ok (.iload_n 1, 1) := by decide +kernel
theorem dX6_begins_13 : decode cX6_begins 13 = .ok (.iconst 0, 1) := by decide +kernel
theorem dX6_begins_14 : decode cX6_begins 14 = .ok (.iastore, 1) := by decide +kernel
theorem dX6_begins_15 : decode cX6_begins 15 = .ok (.iinc 1 1, 3) := by decide +kernel
theorem dX6_begins_18 : decode cX6_begins 18 = .ok (.goto (-16), 3) := by decide +kernel
theorem dX6_begins_21 : decode cX6_begins 21 = .ok (.iconst 0, 1) := by decide +kernel
theorem dX6_begins_22 : decode cX6_begins 22 = .ok (.istore_n 1, 1) := by decide +kernel
theorem dX6_begins_23 : decode cX6_begins 23 = .ok (.iload_n 1, 1) := by decide +kernel
theorem dX6_begins_24 : decode cX6_begins 24 = .ok (.bipush 31, 2) := by decide +kernel
theorem dX6_begins_26 : decode cX6_begins 26 = .ok (.if_icmp .ge 16, 3) := by decide +kernel
theorem dX6_begins_29 : decode cX6_begins 29 = .ok (.aload_n 0, 1) := by decide +kernel
theorem dX6_begins_30 : decode cX6_begins 30 = .ok (.getfield 19, 3) := by decide +kernel
theorem dX6_begins_33 : decode cX6_begins 33 = .ok (.iload_n 1, 1) := by decide +kernel
theorem dX6_begins_34 : decode cX6_begins 34 = .ok (.iconst 0, 1) := by decide +kernel
theorem dX6_begins_35 : decode cX6_begins 35 = .ok (.iastore, 1) := by decide +kernel
theorem dX6_begins_36 : decode cX6_begins 36 = .ok (.iinc 1 1, 3) := by decide +kernel
theorem dX6_begins_39 : decode cX6_begins 39 = .ok (.goto (-16), 3) := by decide +kernel
theorem dX6_begins_42 : decode cX6_begins 42 = .ok (.aload_n 0, 1) := by decide +kernel
theorem dX6_begins_43 : decode cX6_begins 43 = .ok (.getfield 16, 3) := by decide +kernel
theorem dX6_begins_46 : decode cX6_begins 46 = .ok (.iconst 1, 1) := by decide +kernel
theorem dX6_begins_47 : decode cX6_begins 47 = .ok (.iconst 5, 1) := by decide +kernel
theorem dX6_begins_48 : decode cX6_begins 48 = .ok (.iastore, 1) := by decide +kernel
theorem dX6_begins_49 : decode cX6_begins 49 = .ok (.aload_n 0, 1) := by decide +kernel
theorem dX6_begins_50 : decode cX6_begins 50 = .ok (.getfield 16, 3) := by decide +kernel
theorem dX6_begins_53 : decode cX6_begins 53 = .ok (.iconst 2, 1) := by decide +kernel
theorem dX6_begins_54 : decode cX6_begins 54 = .ok (.bipush 6, 2) := by decide +kernel
theorem dX6_begins_56 : decode cX6_begins 56 = .ok (.iastore, 1) := by decide +kernel
theorem dX6_begins_57 : decode cX6_begins 57 = .ok (.aload_n 0, 1) := by decide +kernel
theorem dX6_begins_58 : decode cX6_begins 58 = .ok (.getfield 19, 3) := by decide +kernel
theorem dX6_begins_61 : decode cX6_begins 61 = .ok (.bipush 28, 2) := by decide +kernel
theorem dX6_begins_63 : decode cX6_begins 63 = .ok (.bipush 30, 2) := by decide +kernel
theorem dX6_begins_65 : decode cX6_begins 65 = .ok (.iastore, 1) := by decide +kernel
theorem dX6_begins_66 : decode cX6_begins 66 = .ok (.aload_n 0, 1) := by decide +kernel
theorem dX6_begins_67 : decode cX6_begins 67 = .ok (.getfield 19, 3) := by decide +kernel
theorem dX6_begins_70 : decode cX6_begins 70 = .ok (.bipush 29, 2) := by decide +kernel
theorem dX6_begins_72 : decode cX6_begins 72 = .ok (.iconst 4, 1) := by decide +kernel
theorem dX6_begins_73 : decode cX6_begins 73 = .ok (.iastore, 1) := by decide +kernel
theorem dX6_begins_74 : decode cX6_begins 74 = .ok (.aload_n 0, 1) := by decide +kernel
theorem dX6_begins_75 : decode cX6_begins 75 = .ok (.getfield 19, 3) := by decide +kernel
theorem dX6_begins_78 : decode cX6_begins 78 = .ok (.bipush 30, 2) := by decide +kernel
theorem dX6_begins_80 : decode cX6_begins 80 = .ok (.iconst 1, 1) := by decide +kernel
theorem dX6_begins_81 : decode cX6_begins 81 = .ok (.iastore, 1) := by decide +kernel
theorem dX6_begins_82 : decode cX6_begins 82 = .ok (.return_, 1) := by decide +kernel
theorem dX6_memberOf_0 : decode cX6_memberOf 0 = .ok (.aload_n 0, 1) := by decide +kernel
theorem dX6_memberOf_1 : decode cX6_memberOf 1 = .ok (.getfield 16, 3) := by decide +kernel
theorem dX6_memberOf_4 : decode cX6_memberOf 4 = .ok (.iconst 0, 1) := by decide +kernel
theorem dX6_memberOf_5 : decode cX6_memberOf 5 = .ok (.iaload, 1) := by decide +kernel
theorem dX6_memberOf_6 : decode cX6_memberOf 6 = .ok (.istore 5, 2) := by decide +kernel
theorem dX6_memberOf_8 : decode cX6_memberOf 8 = .ok (.aload_n 0, 1) := by decide +kernel
theorem dX6_memberOf_9 : decode cX6_memberOf 9 = .ok (.getfield 19, 3) := by decide +kernel
theorem dX6_memberOf_12 : decode cX6_memberOf 12 = .ok (.iload 5, 2) := by decide +kernel
theorem dX6_memberOf_14 : decode cX6_memberOf 14 = .ok (.iload_n 1, 1) := by decide +kernel
theorem dX6_memberOf_15 : decode cX6_memberOf 15 = .ok (.iastore, 1) := by decide +kernel
theorem dX6_memberOf_16 : decode cX6_memberOf 16 = .ok (.aload_n 0, 1) := by decide +kernel
theorem dX6_memberOf_17 : decode cX6_memberOf 17 = .ok (.getfield 19, 3) := by decide +kernel
theorem dX6_memberOf_20 : decode cX6_memberOf 20 = .ok (.bipush 7, 2) := by decide +kernel
theorem dX6_memberOf_22 : decode cX6_memberOf 22 = .ok (.iload 5, 2) := by decide +kernel
theorem dX6_memberOf_24 : decode cX6_memberOf 24 = .ok (.iadd, 1) := by decide +kernel
theorem dX6_memberOf_25 : decode cX6_memberOf 25 = .ok (.iload_n 2, 1) := by decide +kernel
theorem dX6_memberOf_26 : decode cX6_memberOf 26 = .ok (.iastore, 1) := by decide +kernel
theorem dX6_memberOf_27 : decode cX6_memberOf 27 = .ok (.aload_n 0, 1) := by decide +kernel
theorem dX6_memberOf_28 : decode cX6_memberOf 28 = .ok (.getfield 19, 3) := by decide +kernel
theorem dX6_memberOf_31 : decode cX6_memberOf 31 = .ok (.bipush 14, 2) := by decide +kernel
theorem dX6_memberOf_33 : decode cX6_memberOf 33 = .ok (.iload 5, 2) := by decide +kernel
theorem dX6_memberOf_35 : decode cX6_memberOf 35 = .ok (.iadd, 1) := by decide +kernel
theorem dX6_memberOf_36 : decode cX6_memberOf 36 = .ok (.iload_n 3, 1) := by decide +kernel
theorem dX6_memberOf_37 : decode cX6_memberOf 37 = .ok (.iastore, 1) := by decide +kernel
theorem dX6_memberOf_38 : decode cX6_memberOf 38 = .ok (.aload_n 0, 1) := by decide +kernel
theorem dX6_memberOf_39 : decode cX6_memberOf 39 = .ok (.getfield 16, 3) := by decide +kernel
theorem dX6_memberOf_42 : decode cX6_memberOf 42 = .ok (.iconst 3, 1) := by decide +kernel
theorem dX6_memberOf_43 : decode cX6_memberOf 43 = .ok (.iload 5, 2) := by decide +kernel
theorem dX6_memberOf_45 : decode cX6_memberOf 45 = .ok (.iadd, 1) := by decide +kernel
theorem dX6_memberOf_46 : decode cX6_memberOf 46 = .ok (.iload 4, 2) := by decide +kernel
theorem dX6_memberOf_48 : decode cX6_memberOf 48 = .ok (.iastore, 1) := by decide +kernel
theorem dX6_memberOf_49 : decode cX6_memberOf 49 = .ok (.aload_n 0, 1) := by decide +kernel
theorem dX6_memberOf_50 : decode cX6_memberOf 50 = .ok (.getfield 16, 3) := by decide +kernel
theorem dX6_memberOf_53 : decode cX6_memberOf 53 = .ok (.iconst 0, 1) := by decide +kernel
theorem dX6_memberOf_54 : decode cX6_memberOf 54 = .ok (.dup2, 1) := by decide +kernel
theorem dX6_memberOf_55 : decode cX6_memberOf 55 = .ok (.iaload, 1) := by decide +kernel
theorem dX6_memberOf_56 : decode cX6_memberOf 56 = .ok (.iconst 1, 1) := by decide +kernel
theorem dX6_memberOf_57 : decode cX6_memberOf 57 = .ok (.iadd, 1) := by decide +kernel
theorem dX6_memberOf_58 : decode cX6_memberOf 58 = .ok (.iastore, 1) := by decide +kernel
theorem dX6_memberOf_59 : decode cX6_memberOf 59 = .ok (.return_, 1) := by decide +kernel
theorem dX6_readsItem_0 : decode cX6_readsItem 0 = .ok (.iload_n 1, 1) := by decide +kernel
theorem dX6_readsItem_1 : decode cX6_readsItem 1 = .ok (.lookupswitch 282 #[(102, 252), (109, 43), (112, 139), (114, 222)], 43) := by decide +kernel
theorem dX6_readsItem_44 : decode cX6_readsItem 44 = .ok (.aload_n 0, 1) := by decide +kernel
theorem dX6_readsItem_45 : decode cX6_readsItem 45 = .ok (.iconst 0, 1) := by decide +kernel
theorem dX6_readsItem_46 : decode cX6_readsItem 46 = .ok (.iconst 3, 1) := by decide +kernel
theorem dX6_readsItem_47 : decode cX6_readsItem 47 = .ok (.bipush 44, 2) := by decide +kernel
theorem dX6_readsItem_49 : decode cX6_readsItem 49 = .ok (.invokevirtual 69, 3) := by decide +kernel
theorem dX6_readsItem_52 : decode cX6_readsItem 52 = .ok (.istore_n 2, 1) := by decide +kernel
theorem dX6_readsItem_53 : decode cX6_readsItem 53 = .ok (.iload_n 2, 1) := by decide +kernel
theorem dX6_readsItem_54 : decode cX6_readsItem 54 = .ok (.ifCond .ge 7, 3) := by decide +kernel
theorem dX6_readsItem_57 : decode cX6_readsItem 57 = .ok (.iconst (-1), 1) := by decide +kernel
theorem dX6_readsItem_58 : decode cX6_readsItem 58 = .ok (.goto 12, 3) := by decide +kernel
theorem dX6_readsItem_61 : decode cX6_readsItem 61 = .ok (.aload_n 0, 1) := by decide +kernel
theorem dX6_readsItem_62 : decode cX6_readsItem 62 = .ok (.iconst 1, 1) := by decide +kernel
theorem dX6_readsItem_63 : decode cX6_readsItem 63 = .ok (.bipush 9, 2) := by decide +kernel
theorem dX6_readsItem_65 : decode cX6_readsItem 65 = .ok (.bipush 44, 2) := by decide +kernel
theorem dX6_readsItem_67 : decode cX6_readsItem 67 = .ok (.invokevirtual 69, 3) := by decide +kernel
theorem dX6_readsItem_70 : decode cX6_readsItem 70 = .ok (.istore_n 3, 1) := by decide +kernel
theorem dX6_readsItem_71 : decode cX6_readsItem 71 = .ok (.iload_n 3, 1) := by decide +kernel
theorem dX6_readsItem_72 : decode cX6_readsItem 72 = .ok (.ifCond .ge 7, 3) := by decide +kernel
theorem dX6_readsItem_75 : decode cX6_readsItem 75 = .ok (.iconst (-1), 1) := by decide +kernel
theorem dX6_readsItem_76 : decode cX6_readsItem 76 = .ok (.goto 12, 3) := by decide +kernel
theorem dX6_readsItem_79 : decode cX6_readsItem 79 = .ok (.aload_n 0, 1) := by decide +kernel
theorem dX6_readsItem_80 : decode cX6_readsItem 80 = .ok (.iconst 0, 1) := by decide +kernel
theorem dX6_readsItem_81 : decode cX6_readsItem 81 = .ok (.bipush 60, 2) := by decide +kernel
theorem dX6_readsItem_83 : decode cX6_readsItem 83 = .ok (.bipush 44, 2) := by decide +kernel
theorem dX6_readsItem_85 : decode cX6_readsItem 85 = .ok (.invokevirtual 69, 3) := by decide +kernel
theorem dX6_readsItem_88 : decode cX6_readsItem 88 = .ok (.istore 4, 2) := by decide +kernel
theorem dX6_readsItem_90 : decode cX6_readsItem 90 = .ok (.iload 4, 2) := by decide +kernel
theorem dX6_readsItem_92 : decode cX6_readsItem 92 = .ok (.ifCond .ge 7, 3) := by decide +kernel
theorem dX6_readsItem_95 : decode cX6_readsItem 95 = .ok (.iconst (-1), 1) := by decide +kernel
theorem dX6_readsItem_96 : decode cX6_readsItem 96 = .ok (.goto 12, 3) := by decide +kernel
theorem dX6_readsItem_99 : decode cX6_readsItem 99 = .ok (.aload_n 0, 1) := by decide +kernel
theorem dX6_readsItem_100 : decode cX6_readsItem 100 = .ok (.iconst 0, 1) := by decide +kernel
theorem dX6_readsItem_101 : decode cX6_readsItem 101 = .ok (.bipush 9, 2) := by decide +kernel
theorem dX6_readsItem_103 : decode cX6_readsItem 103 = .ok (.bipush 59, 2) := by decide +kernel
theorem dX6_readsItem_105 : decode cX6_readsItem 105 = .ok (.invokevirtual 69, 3) := by decide +kernel
theorem dX6_readsItem_108 : decode cX6_readsItem 108 = .ok (.istore 5, 2) := by decide +kernel
theorem dX6_readsItem_110 : decode cX6_readsItem 110 = .ok (.iload 5, 2) := by decide +kernel
theorem dX6_readsItem_112 : decode cX6_readsItem 112 = .ok (.ifCond .lt 14, 3) := by decide +kernel
theorem dX6_readsItem_115 : decode cX6_readsItem 115 = .ok (.aload_n 0, 1) := by decide +kernel
theorem dX6_readsItem_116 : decode cX6_readsItem 116 = .ok (.getfield 16, 3) := by decide +kernel
theorem dX6_readsItem_119 : decode cX6_readsItem 119 = .ok (.iconst 0, 1) := by decide +kernel
theorem dX6_readsItem_120 : decode cX6_readsItem 120 = .ok (.iaload, 1) := by decide +kernel
theorem dX6_readsItem_121 : decode cX6_readsItem 121 = .ok (.bipush 7, 2) := by decide +kernel
theorem dX6_readsItem_123 : decode cX6_readsItem 123 = .ok (.if_icmp .ne 5, 3) := by decide +kernel
theorem dX6_readsItem_126 : decode cX6_readsItem 126 = .ok (.iconst 0, 1) := by decide +kernel
theorem dX6_readsItem_127 : decode cX6_readsItem 127 = .ok (.ireturn, 1) := by decide +kernel
theorem dX6_readsItem_128 : decode cX6_readsItem 128 = .ok (.aload_n 0, 1) := by decide +kernel
theorem dX6_readsItem_129 : decode cX6_readsItem 129 = .ok (.iload_n 2, 1) := by decide +kernel
theorem dX6_readsItem_130 : decode cX6_readsItem 130 = .ok (.iload_n 3, 1) := by decide +kernel
theorem dX6_readsItem_131 : decode cX6_readsItem 131 = .ok (.iload 4, 2) := by decide +kernel
theorem dX6_readsItem_133 : decode cX6_readsItem 133 = .ok (.iload 5, 2) := by decide +kernel
theorem dX6_readsItem_135 : decode cX6_readsItem 135 = .ok (.invokevirtual 43, 3) := by decide +kernel
theorem dX6_readsItem_138 : decode cX6_readsItem 138 = .ok (.iconst 1, 1) := by decide +kernel
theorem dX6_readsItem_139 : decode cX6_readsItem 139 = .ok (.ireturn, 1) := by decide +kernel
theorem dX6_readsItem_140 : decode cX6_readsItem 140 = .ok (.aload_n 0, 1) := by decide +kernel
theorem dX6_readsItem_141 : decode cX6_readsItem 141 = .ok (.iconst 0, 1) := by decide +kernel
theorem dX6_readsItem_142 : decode cX6_readsItem 142 = .ok (.bipush 99, 2) := by decide +kernel
theorem dX6_readsItem_144 : decode cX6_readsItem 144 = .ok (.bipush 44, 2) := by decide +kernel
theorem dX6_readsItem_146 : decode cX6_readsItem 146 = .ok (.invokevirtual 69, 3) := by decide +kernel
theorem dX6_readsItem_149 : decode cX6_readsItem 149 = .ok (.istore_n 2, 1) := by decide +kernel
theorem dX6_readsItem_150 : decode cX6_readsItem 150 = .ok (.iload_n 2, 1) := by decide +kernel
theorem dX6_readsItem_151 : decode cX6_readsItem 151 = .ok (.ifCond .ge 7, 3) := by decide +kernel
theorem dX6_readsItem_154 : decode cX6_readsItem 154 = .ok (.iconst (-1), 1) := by decide +kernel
theorem dX6_readsItem_155 : decode cX6_readsItem 155 = .ok (.goto 12, 3) := by decide +kernel
theorem dX6_readsItem_158 : decode cX6_readsItem 158 = .ok (.aload_n 0, 1) := by decide +kernel
theorem dX6_readsItem_159 : decode cX6_readsItem 159 = .ok (.iconst 0, 1) := by decide +kernel
theorem dX6_readsItem_160 : decode cX6_readsItem 160 = .ok (.bipush 9, 2) := by decide +kernel
theorem dX6_readsItem_162 : decode cX6_readsItem 162 = .ok (.bipush 44, 2) := by decide +kernel
theorem dX6_readsItem_164 : decode cX6_readsItem 164 = .ok (.invokevirtual 69, 3) := by decide +kernel
theorem dX6_readsItem_167 : decode cX6_readsItem 167 = .ok (.istore_n 3, 1) := by decide +kernel
theorem dX6_readsItem_168 : decode cX6_readsItem 168 = .ok (.iload_n 3, 1) := by decide +kernel
theorem dX6_readsItem_169 : decode cX6_readsItem 169 = .ok (.ifCond .ge 7, 3) := by decide +kernel
theorem dX6_readsItem_172 : decode cX6_readsItem 172 = .ok (.iconst (-1), 1) := by decide +kernel
theorem dX6_readsItem_173 : decode cX6_readsItem 173 = .ok (.goto 12, 3) := by decide +kernel
theorem dX6_readsItem_176 : decode cX6_readsItem 176 = .ok (.aload_n 0, 1) := by decide +kernel
theorem dX6_readsItem_177 : decode cX6_readsItem 177 = .ok (.iconst 0, 1) := by decide +kernel
theorem dX6_readsItem_178 : decode cX6_readsItem 178 = .ok (.bipush 9, 2) := by decide +kernel
theorem dX6_readsItem_180 : decode cX6_readsItem 180 = .ok (.bipush 59, 2) := by decide +kernel
theorem dX6_readsItem_182 : decode cX6_readsItem 182 = .ok (.invokevirtual 69, 3) := by decide +kernel
theorem dX6_readsItem_185 : decode cX6_readsItem 185 = .ok (.istore 4, 2) := by decide +kernel
theorem dX6_readsItem_187 : decode cX6_readsItem 187 = .ok (.aload_n 0, 1) := by decide +kernel
theorem dX6_readsItem_188 : decode cX6_readsItem 188 = .ok (.getfield 19, 3) := by decide +kernel
theorem dX6_readsItem_191 : decode cX6_readsItem 191 = .ok (.bipush 28, 2) := by decide +kernel
theorem dX6_readsItem_193 : decode cX6_readsItem 193 = .ok (.iload_n 2, 1) := by decide +kernel
theorem dX6_readsItem_194 : decode cX6_readsItem 194 = .ok (.iastore, 1) := by decide +kernel
theorem dX6_readsItem_195 : decode cX6_readsItem 195 = .ok (.aload_n 0, 1) := by decide +kernel
theorem dX6_readsItem_196 : decode cX6_readsItem 196 = .ok (.getfield 19, 3) := by decide +kernel
theorem dX6_readsItem_199 : decode cX6_readsItem 199 = .ok (.bipush 29, 2) := by decide +kernel
theorem dX6_readsItem_201 : decode cX6_readsItem 201 = .ok (.iload_n 3, 1) := by decide +kernel
theorem dX6_readsItem_202 : decode cX6_readsItem 202 = .ok (.iastore, 1) := by decide +kernel
theorem dX6_readsItem_203 : decode cX6_readsItem 203 = .ok (.aload_n 0, 1) := by decide +kernel
theorem dX6_readsItem_204 : decode cX6_readsItem 204 = .ok (.getfield 19, 3) := by decide +kernel
theorem dX6_readsItem_207 : decode cX6_readsItem 207 = .ok (.bipush 30, 2) := by decide +kernel
theorem dX6_readsItem_209 : decode cX6_readsItem 209 = .ok (.iload 4, 2) := by decide +kernel
theorem dX6_readsItem_211 : decode cX6_readsItem 211 = .ok (.iastore, 1) := by decide +kernel
theorem dX6_readsItem_212 : decode cX6_readsItem 212 = .ok (.iload 4, 2) := by decide +kernel
theorem dX6_readsItem_214 : decode cX6_readsItem 214 = .ok (.ifCond .lt 7, 3) := by decide +kernel
theorem dX6_readsItem_217 : decode cX6_readsItem 217 = .ok (.iconst 1, 1) := by decide +kernel
theorem dX6_readsItem_218 : decode cX6_readsItem 218 = .ok (.goto 4, 3) := by decide +kernel
theorem dX6_readsItem_221 : decode cX6_readsItem 221 = .ok (.iconst 0, 1) := by decide +kernel
theorem dX6_readsItem_222 : decode cX6_readsItem 222 = .ok (.ireturn, 1) := by decide +kernel
theorem dX6_readsItem_223 : decode cX6_readsItem 223 = .ok (.aload_n 0, 1) := by decide +kernel
theorem dX6_readsItem_224 : decode cX6_readsItem 224 = .ok (.getfield 16, 3) := by decide +kernel
theorem dX6_readsItem_227 : decode cX6_readsItem 227 = .ok (.iconst 1, 1) := by decide +kernel
theorem dX6_readsItem_228 : decode cX6_readsItem 228 = .ok (.aload_n 0, 1) := by decide +kernel
theorem dX6_readsItem_229 : decode cX6_readsItem 229 = .ok (.iconst 1, 1) := by decide +kernel
theorem dX6_readsItem_230 : decode cX6_readsItem 230 = .ok (.bipush 20, 2) := by decide +kernel
theorem dX6_readsItem_232 : decode cX6_readsItem 232 = .ok (.bipush 59, 2) := by decide +kernel
theorem dX6_readsItem_234 : decode cX6_readsItem 234 = .ok (.invokevirtual 69, 3) := by decide +kernel
theorem dX6_readsItem_237 : decode cX6_readsItem 237 = .ok (.iastore, 1) := by decide +kernel
theorem dX6_readsItem_238 : decode cX6_readsItem 238 = .ok (.aload_n 0, 1) := by decide +kernel
theorem dX6_readsItem_239 : decode cX6_readsItem 239 = .ok (.getfield 16, 3) := by decide +kernel
theorem dX6_readsItem_242 : decode cX6_readsItem 242 = .ok (.iconst 1, 1) := by decide +kernel
theorem dX6_readsItem_243 : decode cX6_readsItem 243 = .ok (.iaload, 1) := by decide +kernel
theorem dX6_readsItem_244 : decode cX6_readsItem 244 = .ok (.ifCond .le 7, 3) := by decide +kernel
theorem dX6_readsItem_247 : decode cX6_readsItem 247 = .ok (.iconst 1, 1) := by decide +kernel
theorem dX6_readsItem_248 : decode cX6_readsItem 248 = .ok (.goto 4, 3) := by decide +kernel
theorem dX6_readsItem_251 : decode cX6_readsItem 251 = .ok (.iconst 0, 1) := by decide +kernel
theorem dX6_readsItem_252 : decode cX6_readsItem 252 = .ok (.ireturn, 1) := by decide +kernel
theorem dX6_readsItem_253 : decode cX6_readsItem 253 = .ok (.aload_n 0, 1) := by decide +kernel
theorem dX6_readsItem_254 : decode cX6_readsItem 254 = .ok (.getfield 16, 3) := by decide +kernel
theorem dX6_readsItem_257 : decode cX6_readsItem 257 = .ok (.iconst 2, 1) := by decide +kernel
theorem dX6_readsItem_258 : decode cX6_readsItem 258 = .ok (.aload_n 0, 1) := by decide +kernel
theorem dX6_readsItem_259 : decode cX6_readsItem 259 = .ok (.iconst 1, 1) := by decide +kernel
theorem dX6_readsItem_260 : decode cX6_readsItem 260 = .ok (.bipush 20, 2) := by decide +kernel
theorem dX6_readsItem_262 : decode cX6_readsItem 262 = .ok (.bipush 59, 2) := by decide +kernel
theorem dX6_readsItem_264 : decode cX6_readsItem 264 = .ok (.invokevirtual 69, 3) := by decide +kernel
theorem dX6_readsItem_267 : decode cX6_readsItem 267 = .ok (.iastore, 1) := by decide +kernel
theorem dX6_readsItem_268 : decode cX6_readsItem 268 = .ok (.aload_n 0, 1) := by decide +kernel
theorem dX6_readsItem_269 : decode cX6_readsItem 269 = .ok (.getfield 16, 3) := by decide +kernel
theorem dX6_readsItem_272 : decode cX6_readsItem 272 = .ok (.iconst 2, 1) := by decide +kernel
theorem dX6_readsItem_273 : decode cX6_readsItem 273 = .ok (.iaload, 1) := by decide +kernel
theorem dX6_readsItem_274 : decode cX6_readsItem 274 = .ok (.ifCond .le 7, 3) := by decide +kernel
theorem dX6_readsItem_277 : decode cX6_readsItem 277 = .ok (.iconst 1, 1) := by decide +kernel
theorem dX6_readsItem_278 : decode cX6_readsItem 278 = .ok (.goto 4, 3) := by decide +kernel
theorem dX6_readsItem_281 : decode cX6_readsItem 281 = .ok (.iconst 0, 1) := by decide +kernel
theorem dX6_readsItem_282 : decode cX6_readsItem 282 = .ok (.ireturn, 1) := by decide +kernel
theorem dX6_readsItem_283 : decode cX6_readsItem 283 = .ok (.iconst 0, 1) := by decide +kernel
theorem dX6_readsItem_284 : decode cX6_readsItem 284 = .ok (.ireturn, 1) := by decide +kernel
theorem dX6_readsAll_0 : decode cX6_readsAll 0 = .ok (.aload_n 0, 1) := by decide +kernel
theorem dX6_readsAll_1 : decode cX6_readsAll 1 = .ok (.invokevirtual 40, 3) := by decide +kernel
theorem dX6_readsAll_4 : decode cX6_readsAll 4 = .ok (.aload_n 0, 1) := by decide +kernel
theorem dX6_readsAll_5 : decode cX6_readsAll 5 = .ok (.iconst 0, 1) := by decide +kernel
theorem dX6_readsAll_6 : decode cX6_readsAll 6 = .ok (.putfield 58, 3) := by decide +kernel
theorem dX6_readsAll_9 : decode cX6_readsAll 9 = .ok (.aload_n 0, 1) := by decide +kernel
theorem dX6_readsAll_10 : decode cX6_readsAll 10 = .ok (.getfield 58, 3) := by decide +kernel
theorem dX6_readsAll_13 : decode cX6_readsAll 13 = .ok (.aload_n 0, 1) := by decide +kernel
theorem dX6_readsAll_14 : decode cX6_readsAll 14 = .ok (.getfield 54, 3) := by decide +kernel
theorem dX6_readsAll_17 : decode cX6_readsAll 17 = .ok (.if_icmp .ge 36, 3) := by decide +kernel
theorem dX6_readsAll_20 : decode cX6_readsAll 20 = .ok (.aload_n 0, 1) := by decide +kernel
theorem dX6_readsAll_21 : decode cX6_readsAll 21 = .ok (.getfield 58, 3) := by decide +kernel
theorem dX6_readsAll_24 : decode cX6_readsAll 24 = .ok (.istore_n 1, 1) := by decide +kernel
theorem dX6_readsAll_25 : decode cX6_readsAll 25 = .ok (.aload_n 0, 1) := by decide +kernel
theorem dX6_readsAll_26 : decode cX6_readsAll 26 = .ok (.dup, 1) := by decide +kernel
theorem dX6_readsAll_27 : decode cX6_readsAll 27 = .ok (.getfield 58, 3) := by decide +kernel
theorem dX6_readsAll_30 : decode cX6_readsAll 30 = .ok (.iconst 1, 1) := by decide +kernel
theorem dX6_readsAll_31 : decode cX6_readsAll 31 = .ok (.iadd, 1) := by decide +kernel
theorem dX6_readsAll_32 : decode cX6_readsAll 32 = .ok (.putfield 58, 3) := by decide +kernel
theorem dX6_readsAll_35 : decode cX6_readsAll 35 = .ok (.aload_n 0, 1) := by decide +kernel
theorem dX6_readsAll_36 : decode cX6_readsAll 36 = .ok (.aload_n 0, 1) := by decide +kernel
theorem dX6_readsAll_37 : decode cX6_readsAll 37 = .ok (.getfield 7, 3) := by decide +kernel
theorem dX6_readsAll_40 : decode cX6_readsAll 40 = .ok (.iload_n 1, 1) := by decide +kernel
theorem dX6_readsAll_41 : decode cX6_readsAll 41 = .ok (.iaload, 1) := by decide +kernel
theorem dX6_readsAll_42 : decode cX6_readsAll 42 = .ok (.invokevirtual 73, 3) := by decide +kernel
theorem dX6_readsAll_45 : decode cX6_readsAll 45 = .ok (.ifCond .ne 5, 3) := by decide +kernel
theorem dX6_readsAll_48 : decode cX6_readsAll 48 = .ok (.iload_n 1, 1) := by decide +kernel
theorem dX6_readsAll_49 : decode cX6_readsAll 49 = .ok (.ireturn, 1) := by decide +kernel
theorem dX6_readsAll_50 : decode cX6_readsAll 50 = .ok (.goto (-41), 3) := by decide +kernel
theorem dX6_readsAll_53 : decode cX6_readsAll 53 = .ok (.bipush (-4), 2) := by decide +kernel
theorem dX6_readsAll_55 : decode cX6_readsAll 55 = .ok (.ireturn, 1) := by decide +kernel
theorem dX6_fault_0 : decode cX6_fault 0 = .ok (.aload_n 0, 1) := by decide +kernel
theorem dX6_fault_1 : decode cX6_fault 1 = .ok (.invokevirtual 76, 3) := by decide +kernel
theorem dX6_fault_4 : decode cX6_fault 4 = .ok (.ireturn, 1) := by decide +kernel
theorem dX6_lays_0 : decode cX6_lays 0 = .ok (.iconst 0, 1) := by decide +kernel
theorem dX6_lays_1 : decode cX6_lays 1 = .ok (.istore_n 1, 1) := by decide +kernel
theorem dX6_lays_2 : decode cX6_lays 2 = .ok (.iload_n 1, 1) := by decide +kernel
theorem dX6_lays_3 : decode cX6_lays 3 = .ok (.bipush 10, 2) := by decide +kernel
theorem dX6_lays_5 : decode cX6_lays 5 = .ok (.if_icmp .ge 21, 3) := by decide +kernel
theorem dX6_lays_8 : decode cX6_lays 8 = .ok (.aload_n 0, 1) := by decide +kernel
theorem dX6_lays_9 : decode cX6_lays 9 = .ok (.getfield 13, 3) := by decide +kernel
theorem dX6_lays_12 : decode cX6_lays 12 = .ok (.iload_n 1, 1) := by decide +kernel
theorem dX6_lays_13 : decode cX6_lays 13 = .ok (.aload_n 0, 1) := by decide +kernel
theorem dX6_lays_14 : decode cX6_lays 14 = .ok (.getfield 16, 3) := by decide +kernel
theorem dX6_lays_17 : decode cX6_lays 17 = .ok (.iload_n 1, 1) := by decide +kernel
theorem dX6_lays_18 : decode cX6_lays 18 = .ok (.iaload, 1) := by decide +kernel
theorem dX6_lays_19 : decode cX6_lays 19 = .ok (.iastore, 1) := by decide +kernel
theorem dX6_lays_20 : decode cX6_lays 20 = .ok (.iinc 1 1, 3) := by decide +kernel
theorem dX6_lays_23 : decode cX6_lays 23 = .ok (.goto (-21), 3) := by decide +kernel
theorem dX6_lays_26 : decode cX6_lays 26 = .ok (.iconst 0, 1) := by decide +kernel
theorem dX6_lays_27 : decode cX6_lays 27 = .ok (.istore_n 1, 1) := by decide +kernel
theorem dX6_lays_28 : decode cX6_lays 28 = .ok (.iload_n 1, 1) := by decide +kernel
theorem dX6_lays_29 : decode cX6_lays 29 = .ok (.bipush 31, 2) := by decide +kernel
theorem dX6_lays_31 : decode cX6_lays 31 = .ok (.if_icmp .ge 21, 3) := by decide +kernel
theorem dX6_lays_34 : decode cX6_lays 34 = .ok (.aload_n 0, 1) := by decide +kernel
theorem dX6_lays_35 : decode cX6_lays 35 = .ok (.getfield 22, 3) := by decide +kernel
theorem dX6_lays_38 : decode cX6_lays 38 = .ok (.iload_n 1, 1) := by decide +kernel
theorem dX6_lays_39 : decode cX6_lays 39 = .ok (.aload_n 0, 1) := by decide +kernel
theorem dX6_lays_40 : decode cX6_lays 40 = .ok (.getfield 19, 3) := by decide +kernel
theorem dX6_lays_43 : decode cX6_lays 43 = .ok (.iload_n 1, 1) := by decide +kernel
theorem dX6_lays_44 : decode cX6_lays 44 = .ok (.iaload, 1) := by decide +kernel
theorem dX6_lays_45 : decode cX6_lays 45 = .ok (.iastore, 1) := by decide +kernel
theorem dX6_lays_46 : decode cX6_lays 46 = .ok (.iinc 1 1, 3) := by decide +kernel
theorem dX6_lays_49 : decode cX6_lays 49 = .ok (.goto (-21), 3) := by decide +kernel
theorem dX6_lays_52 : decode cX6_lays 52 = .ok (.aload_n 0, 1) := by decide +kernel
theorem dX6_lays_53 : decode cX6_lays 53 = .ok (.iconst 0, 1) := by decide +kernel
theorem dX6_lays_54 : decode cX6_lays 54 = .ok (.putfield 80, 3) := by decide +kernel
theorem dX6_lays_57 : decode cX6_lays 57 = .ok (.aload_n 0, 1) := by decide +kernel
theorem dX6_lays_58 : decode cX6_lays 58 = .ok (.iconst 0, 1) := by decide +kernel
theorem dX6_lays_59 : decode cX6_lays 59 = .ok (.putfield 83, 3) := by decide +kernel
theorem dX6_lays_62 : decode cX6_lays 62 = .ok (.aload_n 0, 1) := by decide +kernel
theorem dX6_lays_63 : decode cX6_lays 63 = .ok (.iconst 0, 1) := by decide +kernel
theorem dX6_lays_64 : decode cX6_lays 64 = .ok (.putfield 86, 3) := by decide +kernel
theorem dX6_lays_67 : decode cX6_lays 67 = .ok (.return_, 1) := by decide +kernel
theorem dX6_lay_0 : decode cX6_lay 0 = .ok (.aload_n 0, 1) := by decide +kernel
theorem dX6_lay_1 : decode cX6_lay 1 = .ok (.invokevirtual 76, 3) := by decide +kernel
theorem dX6_lay_4 : decode cX6_lay 4 = .ok (.bipush (-4), 2) := by decide +kernel
theorem dX6_lay_6 : decode cX6_lay 6 = .ok (.if_icmp .ne 12, 3) := by decide +kernel
theorem dX6_lay_9 : decode cX6_lay 9 = .ok (.aload_n 0, 1) := by decide +kernel
theorem dX6_lay_10 : decode cX6_lay 10 = .ok (.getfield 16, 3) := by decide +kernel
theorem dX6_lay_13 : decode cX6_lay 13 = .ok (.iconst 0, 1) := by decide +kernel
theorem dX6_lay_14 : decode cX6_lay 14 = .ok (.iaload, 1) := by decide +kernel
theorem dX6_lay_15 : decode cX6_lay 15 = .ok (.ifCond .ne 6, 3) := by decide +kernel
theorem dX6_lay_18 : decode cX6_lay 18 = .ok (.bipush (-2), 2) := by decide +kernel
theorem dX6_lay_20 : decode cX6_lay 20 = .ok (.ireturn, 1) := by decide +kernel
theorem dX6_lay_21 : decode cX6_lay 21 = .ok (.aload_n 0, 1) := by decide +kernel
theorem dX6_lay_22 : decode cX6_lay 22 = .ok (.invokevirtual 47, 3) := by decide +kernel
theorem dX6_lay_25 : decode cX6_lay 25 = .ok (.aload_n 0, 1) := by decide +kernel
theorem dX6_lay_26 : decode cX6_lay 26 = .ok (.getfield 13, 3) := by decide +kernel
theorem dX6_lay_29 : decode cX6_lay 29 = .ok (.iconst 0, 1) := by decide +kernel
theorem dX6_lay_30 : decode cX6_lay 30 = .ok (.iaload, 1) := by decide +kernel
theorem dX6_lay_31 : decode cX6_lay 31 = .ok (.ireturn, 1) := by decide +kernel
theorem dX6_wouldEat_0 : decode cX6_wouldEat 0 = .ok (.aload_n 0, 1) := by decide +kernel
theorem dX6_wouldEat_1 : decode cX6_wouldEat 1 = .ok (.getfield 22, 3) := by decide +kernel
theorem dX6_wouldEat_4 : decode cX6_wouldEat 4 = .ok (.iload_n 1, 1) := by decide +kernel
theorem dX6_wouldEat_5 : decode cX6_wouldEat 5 = .ok (.iaload, 1) := by decide +kernel
theorem dX6_wouldEat_6 : decode cX6_wouldEat 6 = .ok (.istore_n 2, 1) := by decide +kernel
theorem dX6_wouldEat_7 : decode cX6_wouldEat 7 = .ok (.aload_n 0, 1) := by decide +kernel
theorem dX6_wouldEat_8 : decode cX6_wouldEat 8 = .ok (.getfield 22, 3) := by decide +kernel
theorem dX6_wouldEat_11 : decode cX6_wouldEat 11 = .ok (.bipush 29, 2) := by decide +kernel
theorem dX6_wouldEat_13 : decode cX6_wouldEat 13 = .ok (.iaload, 1) := by decide +kernel
theorem dX6_wouldEat_14 : decode cX6_wouldEat 14 = .ok (.istore_n 3, 1) := by decide +kernel
theorem dX6_wouldEat_15 : decode cX6_wouldEat 15 = .ok (.aload_n 0, 1) := by decide +kernel
theorem dX6_wouldEat_16 : decode cX6_wouldEat 16 = .ok (.getfield 22, 3) := by decide +kernel
theorem dX6_wouldEat_19 : decode cX6_wouldEat 19 = .ok (.bipush 30, 2) := by decide +kernel
theorem dX6_wouldEat_21 : decode cX6_wouldEat 21 = .ok (.iaload, 1) := by decide +kernel
theorem dX6_wouldEat_22 : decode cX6_wouldEat 22 = .ok (.aload_n 0, 1) := by decide +kernel
theorem dX6_wouldEat_23 : decode cX6_wouldEat 23 = .ok (.getfield 13, 3) := by decide +kernel
theorem dX6_wouldEat_26 : decode cX6_wouldEat 26 = .ok (.iconst 3, 1) := by decide +kernel
theorem dX6_wouldEat_27 : decode cX6_wouldEat 27 = .ok (.iload_n 1, 1) := by decide +kernel
theorem dX6_wouldEat_28 : decode cX6_wouldEat 28 = .ok (.iadd, 1) := by decide +kernel
theorem dX6_wouldEat_29 : decode cX6_wouldEat 29 = .ok (.iaload, 1) := by decide +kernel
theorem dX6_wouldEat_30 : decode cX6_wouldEat 30 = .ok (.if_icmp .gt 42, 3) := by decide +kernel
theorem dX6_wouldEat_33 : decode cX6_wouldEat 33 = .ok (.iload_n 3, 1) := by decide +kernel
theorem dX6_wouldEat_34 : decode cX6_wouldEat 34 = .ok (.iload_n 2, 1) := by decide +kernel
theorem dX6_wouldEat_35 : decode cX6_wouldEat 35 = .ok (.iconst 1, 1) := by decide +kernel
theorem dX6_wouldEat_36 : decode cX6_wouldEat 36 = .ok (.if_icmp .ne 7, 3) := by decide +kernel
theorem dX6_wouldEat_39 : decode cX6_wouldEat 39 = .ok (.iconst 4, 1) := by decide +kernel
theorem dX6_wouldEat_40 : decode cX6_wouldEat 40 = .ok (.goto 25, 3) := by decide +kernel
theorem dX6_wouldEat_43 : decode cX6_wouldEat 43 = .ok (.iload_n 2, 1) := by decide +kernel
theorem dX6_wouldEat_44 : decode cX6_wouldEat 44 = .ok (.iconst 2, 1) := by decide +kernel
theorem dX6_wouldEat_45 : decode cX6_wouldEat 45 = .ok (.if_icmp .ne 8, 3) := by decide +kernel
theorem dX6_wouldEat_48 : decode cX6_wouldEat 48 = .ok (.bipush 7, 2) := by decide +kernel
theorem dX6_wouldEat_50 : decode cX6_wouldEat 50 = .ok (.goto 15, 3) := by decide +kernel
theorem dX6_wouldEat_53 : decode cX6_wouldEat 53 = .ok (.iload_n 2, 1) := by decide +kernel
theorem dX6_wouldEat_54 : decode cX6_wouldEat 54 = .ok (.iconst 3, 1) := by decide +kernel
theorem dX6_wouldEat_55 : decode cX6_wouldEat 55 = .ok (.if_icmp .ne 8, 3) := by decide +kernel
theorem dX6_wouldEat_58 : decode cX6_wouldEat 58 = .ok (.bipush 8, 2) := by decide +kernel
theorem dX6_wouldEat_60 : decode cX6_wouldEat 60 = .ok (.goto 5, 3) := by decide +kernel
theorem dX6_wouldEat_63 : decode cX6_wouldEat 63 = .ok (.bipush 9, 2) := by decide +kernel
theorem dX6_wouldEat_65 : decode cX6_wouldEat 65 = .ok (.if_icmp .gt 7, 3) := by decide +kernel
theorem dX6_wouldEat_68 : decode cX6_wouldEat 68 = .ok (.iconst 1, 1) := by decide +kernel
theorem dX6_wouldEat_69 : decode cX6_wouldEat 69 = .ok (.goto 4, 3) := by decide +kernel
theorem dX6_wouldEat_72 : decode cX6_wouldEat 72 = .ok (.iconst 0, 1) := by decide +kernel
theorem dX6_wouldEat_73 : decode cX6_wouldEat 73 = .ok (.istore 4, 2) := by decide +kernel
theorem dX6_wouldEat_75 : decode cX6_wouldEat 75 = .ok (.iload_n 2, 1) := by decide +kernel
theorem dX6_wouldEat_76 : decode cX6_wouldEat 76 = .ok (.iconst 2, 1) := by decide +kernel
theorem dX6_wouldEat_77 : decode cX6_wouldEat 77 = .ok (.if_icmp .ne 17, 3) := by decide +kernel
theorem dX6_wouldEat_80 : decode cX6_wouldEat 80 = .ok (.iconst 2, 1) := by decide +kernel
theorem dX6_wouldEat_81 : decode cX6_wouldEat 81 = .ok (.aload_n 0, 1) := by decide +kernel
theorem dX6_wouldEat_82 : decode cX6_wouldEat 82 = .ok (.getfield 22, 3) := by decide +kernel
theorem dX6_wouldEat_85 : decode cX6_wouldEat 85 = .ok (.bipush 7, 2) := by decide +kernel
theorem dX6_wouldEat_87 : decode cX6_wouldEat 87 = .ok (.iload_n 1, 1) := by decide +kernel
theorem dX6_wouldEat_88 : decode cX6_wouldEat 88 = .ok (.iadd, 1) := by decide +kernel
theorem dX6_wouldEat_89 : decode cX6_wouldEat 89 = .ok (.iaload, 1) := by decide +kernel
theorem dX6_wouldEat_90 : decode cX6_wouldEat 90 = .ok (.imul, 1) := by decide +kernel
theorem dX6_wouldEat_91 : decode cX6_wouldEat 91 = .ok (.goto 21, 3) := by decide +kernel
theorem dX6_wouldEat_94 : decode cX6_wouldEat 94 = .ok (.iload_n 2, 1) := by decide +kernel
theorem dX6_wouldEat_95 : decode cX6_wouldEat 95 = .ok (.iconst 3, 1) := by decide +kernel
theorem dX6_wouldEat_96 : decode cX6_wouldEat 96 = .ok (.if_icmp .ne 7, 3) := by decide +kernel
theorem dX6_wouldEat_99 : decode cX6_wouldEat 99 = .ok (.iconst 1, 1) := by decide +kernel
theorem dX6_wouldEat_100 : decode cX6_wouldEat 100 = .ok (.goto 12, 3) := by decide +kernel
theorem dX6_wouldEat_103 : decode cX6_wouldEat 103 = .ok (.aload_n 0, 1) := by decide +kernel
theorem dX6_wouldEat_104 : decode cX6_wouldEat 104 = .ok (.getfield 22, 3) := by decide +kernel
theorem dX6_wouldEat_107 : decode cX6_wouldEat 107 = .ok (.bipush 7, 2) := by decide +kernel
theorem dX6_wouldEat_109 : decode cX6_wouldEat 109 = .ok (.iload_n 1, 1) := by decide +kernel
theorem dX6_wouldEat_110 : decode cX6_wouldEat 110 = .ok (.iadd, 1) := by decide +kernel
theorem dX6_wouldEat_111 : decode cX6_wouldEat 111 = .ok (.iaload, 1) := by decide +kernel
theorem dX6_wouldEat_112 : decode cX6_wouldEat 112 = .ok (.istore 5, 2) := by decide +kernel
theorem dX6_wouldEat_114 : decode cX6_wouldEat 114 = .ok (.iload 5, 2) := by decide +kernel
theorem dX6_wouldEat_116 : decode cX6_wouldEat 116 = .ok (.aload_n 0, 1) := by decide +kernel
theorem dX6_wouldEat_117 : decode cX6_wouldEat 117 = .ok (.getfield 22, 3) := by decide +kernel
theorem dX6_wouldEat_120 : decode cX6_wouldEat 120 = .ok (.bipush 14, 2) := by decide +kernel
theorem dX6_wouldEat_122 : decode cX6_wouldEat 122 = .ok (.iload_n 1, 1) := by decide +kernel
theorem dX6_wouldEat_123 : decode cX6_wouldEat 123 = .ok (.iadd, 1) := by decide +kernel
theorem dX6_wouldEat_124 : decode cX6_wouldEat 124 = .ok (.iaload, 1) := by decide +kernel
theorem dX6_wouldEat_125 : decode cX6_wouldEat 125 = .ok (.if_icmp .ge 8, 3) := by decide +kernel
theorem dX6_wouldEat_128 : decode cX6_wouldEat 128 = .ok (.iload 5, 2) := by decide +kernel
theorem dX6_wouldEat_130 : decode cX6_wouldEat 130 = .ok (.goto 12, 3) := by decide +kernel
theorem dX6_wouldEat_133 : decode cX6_wouldEat 133 = .ok (.aload_n 0, 1) := by decide +kernel
theorem dX6_wouldEat_134 : decode cX6_wouldEat 134 = .ok (.getfield 22, 3) := by decide +kernel
theorem dX6_wouldEat_137 : decode cX6_wouldEat 137 = .ok (.bipush 14, 2) := by decide +kernel
theorem dX6_wouldEat_139 : decode cX6_wouldEat 139 = .ok (.iload_n 1, 1) := by decide +kernel
theorem dX6_wouldEat_140 : decode cX6_wouldEat 140 = .ok (.iadd, 1) := by decide +kernel
theorem dX6_wouldEat_141 : decode cX6_wouldEat 141 = .ok (.iaload, 1) := by decide +kernel
theorem dX6_wouldEat_142 : decode cX6_wouldEat 142 = .ok (.istore 6, 2) := by decide +kernel
theorem dX6_wouldEat_144 : decode cX6_wouldEat 144 = .ok (.iload 4, 2) := by decide +kernel
theorem dX6_wouldEat_146 : decode cX6_wouldEat 146 = .ok (.ifCond .ne 7, 3) := by decide +kernel
theorem dX6_wouldEat_149 : decode cX6_wouldEat 149 = .ok (.iconst 0, 1) := by decide +kernel
theorem dX6_wouldEat_150 : decode cX6_wouldEat 150 = .ok (.goto 27, 3) := by decide +kernel
theorem dX6_wouldEat_153 : decode cX6_wouldEat 153 = .ok (.iload 6, 2) := by decide +kernel
theorem dX6_wouldEat_155 : decode cX6_wouldEat 155 = .ok (.aload_n 0, 1) := by decide +kernel
theorem dX6_wouldEat_156 : decode cX6_wouldEat 156 = .ok (.getfield 22, 3) := by decide +kernel
theorem dX6_wouldEat_159 : decode cX6_wouldEat 159 = .ok (.bipush 28, 2) := by decide +kernel
theorem dX6_wouldEat_161 : decode cX6_wouldEat 161 = .ok (.iaload, 1) := by decide +kernel
theorem dX6_wouldEat_162 : decode cX6_wouldEat 162 = .ok (.if_icmp .ge 8, 3) := by decide +kernel
theorem dX6_wouldEat_165 : decode cX6_wouldEat 165 = .ok (.iload 6, 2) := by decide +kernel
theorem dX6_wouldEat_167 : decode cX6_wouldEat 167 = .ok (.goto 10, 3) := by decide +kernel
theorem dX6_wouldEat_170 : decode cX6_wouldEat 170 = .ok (.aload_n 0, 1) := by decide +kernel
theorem dX6_wouldEat_171 : decode cX6_wouldEat 171 = .ok (.getfield 22, 3) := by decide +kernel
theorem dX6_wouldEat_174 : decode cX6_wouldEat 174 = .ok (.bipush 28, 2) := by decide +kernel
theorem dX6_wouldEat_176 : decode cX6_wouldEat 176 = .ok (.iaload, 1) := by decide +kernel
theorem dX6_wouldEat_177 : decode cX6_wouldEat 177 = .ok (.ireturn, 1) := by decide +kernel
theorem dX6_member_0 : decode cX6_member 0 = .ok (.aload_n 0, 1) := by decide +kernel
theorem dX6_member_1 : decode cX6_member 1 = .ok (.iload_n 1, 1) := by decide +kernel
theorem dX6_member_2 : decode cX6_member 2 = .ok (.invokevirtual 89, 3) := by decide +kernel
theorem dX6_member_5 : decode cX6_member 5 = .ok (.ifCond .ne 5, 3) := by decide +kernel
theorem dX6_member_8 : decode cX6_member 8 = .ok (.iconst (-1), 1) := by decide +kernel
theorem dX6_member_9 : decode cX6_member 9 = .ok (.ireturn, 1) := by decide +kernel
theorem dX6_member_10 : decode cX6_member 10 = .ok (.iload_n 2, 1) := by decide +kernel
theorem dX6_member_11 : decode cX6_member 11 = .ok (.tableswitch 89 0 5 #[37, 44, 54, 64, 73, 83], 37) := by decide +kernel
theorem dX6_member_48 : decode cX6_member 48 = .ok (.aload_n 0, 1) := by decide +kernel
theorem dX6_member_49 : decode cX6_member 49 = .ok (.getfield 22, 3) := by decide +kernel
theorem dX6_member_52 : decode cX6_member 52 = .ok (.iload_n 1, 1) := by decide +kernel
theorem dX6_member_53 : decode cX6_member 53 = .ok (.iaload, 1) := by decide +kernel
theorem dX6_member_54 : decode cX6_member 54 = .ok (.ireturn, 1) := by decide +kernel
theorem dX6_member_55 : decode cX6_member 55 = .ok (.aload_n 0, 1) := by decide +kernel
theorem dX6_member_56 : decode cX6_member 56 = .ok (.getfield 22, 3) := by decide +kernel
theorem dX6_member_59 : decode cX6_member 59 = .ok (.bipush 7, 2) := by decide +kernel
theorem dX6_member_61 : decode cX6_member 61 = .ok (.iload_n 1, 1) := by decide +kernel
theorem dX6_member_62 : decode cX6_member 62 = .ok (.iadd, 1) := by decide +kernel
theorem dX6_member_63 : decode cX6_member 63 = .ok (.iaload, 1) := by decide +kernel
theorem dX6_member_64 : decode cX6_member 64 = .ok (.ireturn, 1) := by decide +kernel
theorem dX6_member_65 : decode cX6_member 65 = .ok (.aload_n 0, 1) := by decide +kernel
theorem dX6_member_66 : decode cX6_member 66 = .ok (.getfield 22, 3) := by decide +kernel
theorem dX6_member_69 : decode cX6_member 69 = .ok (.bipush 14, 2) := by decide +kernel
theorem dX6_member_71 : decode cX6_member 71 = .ok (.iload_n 1, 1) := by decide +kernel
theorem dX6_member_72 : decode cX6_member 72 = .ok (.iadd, 1) := by decide +kernel
theorem dX6_member_73 : decode cX6_member 73 = .ok (.iaload, 1) := by decide +kernel
theorem dX6_member_74 : decode cX6_member 74 = .ok (.ireturn, 1) := by decide +kernel
theorem dX6_member_75 : decode cX6_member 75 = .ok (.aload_n 0, 1) := by decide +kernel
theorem dX6_member_76 : decode cX6_member 76 = .ok (.getfield 13, 3) := by decide +kernel
theorem dX6_member_79 : decode cX6_member 79 = .ok (.iconst 3, 1) := by decide +kernel
theorem dX6_member_80 : decode cX6_member 80 = .ok (.iload_n 1, 1) := by decide +kernel
theorem dX6_member_81 : decode cX6_member 81 = .ok (.iadd, 1) := by decide +kernel
theorem dX6_member_82 : decode cX6_member 82 = .ok (.iaload, 1) := by decide +kernel
theorem dX6_member_83 : decode cX6_member 83 = .ok (.ireturn, 1) := by decide +kernel
theorem dX6_member_84 : decode cX6_member 84 = .ok (.aload_n 0, 1) := by decide +kernel
theorem dX6_member_85 : decode cX6_member 85 = .ok (.getfield 22, 3) := by decide +kernel
theorem dX6_member_88 : decode cX6_member 88 = .ok (.bipush 21, 2) := by decide +kernel
theorem dX6_member_90 : decode cX6_member 90 = .ok (.iload_n 1, 1) := by decide +kernel
theorem dX6_member_91 : decode cX6_member 91 = .ok (.iadd, 1) := by decide +kernel
theorem dX6_member_92 : decode cX6_member 92 = .ok (.iaload, 1) := by decide +kernel
theorem dX6_member_93 : decode cX6_member 93 = .ok (.ireturn, 1) := by decide +kernel
theorem dX6_member_94 : decode cX6_member 94 = .ok (.aload_n 0, 1) := by decide +kernel
theorem dX6_member_95 : decode cX6_member 95 = .ok (.iload_n 1, 1) := by decide +kernel
theorem dX6_member_96 : decode cX6_member 96 = .ok (.invokevirtual 92, 3) := by decide +kernel
theorem dX6_member_99 : decode cX6_member 99 = .ok (.ireturn, 1) := by decide +kernel
theorem dX6_member_100 : decode cX6_member 100 = .ok (.iconst (-1), 1) := by decide +kernel
theorem dX6_member_101 : decode cX6_member 101 = .ok (.ireturn, 1) := by decide +kernel
theorem dX6_keeps_0 : decode cX6_keeps 0 = .ok (.aload_n 0, 1) := by decide +kernel
theorem dX6_keeps_1 : decode cX6_keeps 1 = .ok (.getfield 80, 3) := by decide +kernel
theorem dX6_keeps_4 : decode cX6_keeps 4 = .ok (.bipush 8, 2) := by decide +kernel
theorem dX6_keeps_6 : decode cX6_keeps 6 = .ok (.if_icmp .ne 43, 3) := by decide +kernel
theorem dX6_keeps_9 : decode cX6_keeps 9 = .ok (.iconst 0, 1) := by decide +kernel
theorem dX6_keeps_10 : decode cX6_keeps 10 = .ok (.istore_n 1, 1) := by decide +kernel
theorem dX6_keeps_11 : decode cX6_keeps 11 = .ok (.iload_n 1, 1) := by decide +kernel
theorem dX6_keeps_12 : decode cX6_keeps 12 = .ok (.sipush 217, 3) := by decide +kernel
theorem dX6_keeps_15 : decode cX6_keeps 15 = .ok (.if_icmp .ge 24, 3) := by decide +kernel
theorem dX6_keeps_18 : decode cX6_keeps 18 = .ok (.aload_n 0, 1) := by decide +kernel
theorem dX6_keeps_19 : decode cX6_keeps 19 = .ok (.getfield 25, 3) := by decide +kernel
theorem dX6_keeps_22 : decode cX6_keeps 22 = .ok (.iload_n 1, 1) := by decide +kernel
theorem dX6_keeps_23 : decode cX6_keeps 23 = .ok (.aload_n 0, 1) := by decide +kernel
theorem dX6_keeps_24 : decode cX6_keeps 24 = .ok (.getfield 25, 3) := by decide +kernel
theorem dX6_keeps_27 : decode cX6_keeps 27 = .ok (.iload_n 1, 1) := by decide +kernel
theorem dX6_keeps_28 : decode cX6_keeps 28 = .ok (.bipush 31, 2) := by decide +kernel
theorem dX6_keeps_30 : decode cX6_keeps 30 = .ok (.iadd, 1) := by decide +kernel
theorem dX6_keeps_31 : decode cX6_keeps 31 = .ok (.iaload, 1) := by decide +kernel
theorem dX6_keeps_32 : decode cX6_keeps 32 = .ok (.iastore, 1) := by decide +kernel
theorem dX6_keeps_33 : decode cX6_keeps 33 = .ok (.iinc 1 1, 3) := by decide +kernel
theorem dX6_keeps_36 : decode cX6_keeps 36 = .ok (.goto (-25), 3) := by decide +kernel
theorem dX6_keeps_39 : decode cX6_keeps 39 = .ok (.aload_n 0, 1) := by decide +kernel
theorem dX6_keeps_40 : decode cX6_keeps 40 = .ok (.dup, 1) := by decide +kernel
theorem dX6_keeps_41 : decode cX6_keeps 41 = .ok (.getfield 80, 3) := by decide +kernel
theorem dX6_keeps_44 : decode cX6_keeps 44 = .ok (.iconst 1, 1) := by decide +kernel
theorem dX6_keeps_45 : decode cX6_keeps 45 = .ok (.isub, 1) := by decide +kernel
theorem dX6_keeps_46 : decode cX6_keeps 46 = .ok (.putfield 80, 3) := by decide +kernel
theorem dX6_keeps_49 : decode cX6_keeps 49 = .ok (.iconst 0, 1) := by decide +kernel
theorem dX6_keeps_50 : decode cX6_keeps 50 = .ok (.istore_n 1, 1) := by decide +kernel
theorem dX6_keeps_51 : decode cX6_keeps 51 = .ok (.iload_n 1, 1) := by decide +kernel
theorem dX6_keeps_52 : decode cX6_keeps 52 = .ok (.bipush 31, 2) := by decide +kernel
theorem dX6_keeps_54 : decode cX6_keeps 54 = .ok (.if_icmp .ge 29, 3) := by decide +kernel
theorem dX6_keeps_57 : decode cX6_keeps 57 = .ok (.aload_n 0, 1) := by decide +kernel
theorem dX6_keeps_58 : decode cX6_keeps 58 = .ok (.getfield 25, 3) := by decide +kernel
theorem dX6_keeps_61 : decode cX6_keeps 61 = .ok (.bipush 31, 2) := by decide +kernel
theorem dX6_keeps_63 : decode cX6_keeps 63 = .ok (.aload_n 0, 1) := by decide +kernel
theorem dX6_keeps_64 : decode cX6_keeps 64 = .ok (.getfield 80, 3) := by decide +kernel
theorem dX6_keeps_67 : decode cX6_keeps 67 = .ok (.imul, 1) := by decide +kernel
theorem dX6_keeps_68 : decode cX6_keeps 68 = .ok (.iload_n 1, 1) := by decide +kernel
theorem dX6_keeps_69 : decode cX6_keeps 69 = .ok (.iadd, 1) := by decide +kernel
theorem dX6_keeps_70 : decode cX6_keeps 70 = .ok (.aload_n 0, 1) := by decide +kernel
theorem dX6_keeps_71 : decode cX6_keeps 71 = .ok (.getfield 22, 3) := by decide +kernel
theorem dX6_keeps_74 : decode cX6_keeps 74 = .ok (.iload_n 1, 1) := by decide +kernel
theorem dX6_keeps_75 : decode cX6_keeps 75 = .ok (.iaload, 1) := by decide +kernel
theorem dX6_keeps_76 : decode cX6_keeps 76 = .ok (.iastore, 1) := by decide +kernel
theorem dX6_keeps_77 : decode cX6_keeps 77 = .ok (.iinc 1 1, 3) := by decide +kernel
theorem dX6_keeps_80 : decode cX6_keeps 80 = .ok (.goto (-29), 3) := by decide +kernel
theorem dX6_keeps_83 : decode cX6_keeps 83 = .ok (.aload_n 0, 1) := by decide +kernel
theorem dX6_keeps_84 : decode cX6_keeps 84 = .ok (.dup, 1) := by decide +kernel
theorem dX6_keeps_85 : decode cX6_keeps 85 = .ok (.getfield 80, 3) := by decide +kernel
theorem dX6_keeps_88 : decode cX6_keeps 88 = .ok (.iconst 1, 1) := by decide +kernel
theorem dX6_keeps_89 : decode cX6_keeps 89 = .ok (.iadd, 1) := by decide +kernel
theorem dX6_keeps_90 : decode cX6_keeps 90 = .ok (.putfield 80, 3) := by decide +kernel
theorem dX6_keeps_93 : decode cX6_keeps 93 = .ok (.return_, 1) := by decide +kernel
theorem dX6_cools_0 : decode cX6_cools 0 = .ok (.aload_n 0, 1) := by decide +kernel
theorem dX6_cools_1 : decode cX6_cools 1 = .ok (.getfield 22, 3) := by decide +kernel
theorem dX6_cools_4 : decode cX6_cools 4 = .ok (.bipush 29, 2) := by decide +kernel
theorem dX6_cools_6 : decode cX6_cools 6 = .ok (.aload_n 0, 1) := by decide +kernel
theorem dX6_cools_7 : decode cX6_cools 7 = .ok (.getfield 22, 3) := by decide +kernel
theorem dX6_cools_10 : decode cX6_cools 10 = .ok (.bipush 29, 2) := by decide +kernel
theorem dX6_cools_12 : decode cX6_cools 12 = .ok (.iaload, 1) := by decide +kernel
theorem dX6_cools_13 : decode cX6_cools 13 = .ok (.ifCond .le 15, 3) := by decide +kernel
theorem dX6_cools_16 : decode cX6_cools 16 = .ok (.aload_n 0, 1) := by decide +kernel
theorem dX6_cools_17 : decode cX6_cools 17 = .ok (.getfield 22, 3) := by decide +kernel
theorem dX6_cools_20 : decode cX6_cools 20 = .ok (.bipush 29, 2) := by decide +kernel
theorem dX6_cools_22 : decode cX6_cools 22 = .ok (.iaload, 1) := by decide +kernel
theorem dX6_cools_23 : decode cX6_cools 23 = .ok (.iconst 1, 1) := by decide +kernel
theorem dX6_cools_24 : decode cX6_cools 24 = .ok (.isub, 1) := by decide +kernel
theorem dX6_cools_25 : decode cX6_cools 25 = .ok (.goto 4, 3) := by decide +kernel
theorem dX6_cools_28 : decode cX6_cools 28 = .ok (.iconst 0, 1) := by decide +kernel
theorem dX6_cools_29 : decode cX6_cools 29 = .ok (.iastore, 1) := by decide +kernel
theorem dX6_cools_30 : decode cX6_cools 30 = .ok (.return_, 1) := by decide +kernel
theorem dX6_eats_0 : decode cX6_eats 0 = .ok (.iconst 0, 1) := by decide +kernel
theorem dX6_eats_1 : decode cX6_eats 1 = .ok (.istore_n 2, 1) := by decide +kernel
theorem dX6_eats_2 : decode cX6_eats 2 = .ok (.aload_n 0, 1) := by decide +kernel
theorem dX6_eats_3 : decode cX6_eats 3 = .ok (.bipush (-4), 2) := by decide +kernel
theorem dX6_eats_5 : decode cX6_eats 5 = .ok (.putfield 95, 3) := by decide +kernel
theorem dX6_eats_8 : decode cX6_eats 8 = .ok (.iconst 0, 1) := by decide +kernel
theorem dX6_eats_9 : decode cX6_eats 9 = .ok (.istore_n 3, 1) := by decide +kernel
theorem dX6_eats_10 : decode cX6_eats 10 = .ok (.iload_n 3, 1) := by decide +kernel
theorem dX6_eats_11 : decode cX6_eats 11 = .ok (.aload_n 0, 1) := by decide +kernel
theorem dX6_eats_12 : decode cX6_eats 12 = .ok (.getfield 13, 3) := by decide +kernel
theorem dX6_eats_15 : decode cX6_eats 15 = .ok (.iconst 0, 1) := by decide +kernel
theorem dX6_eats_16 : decode cX6_eats 16 = .ok (.iaload, 1) := by decide +kernel
theorem dX6_eats_17 : decode cX6_eats 17 = .ok (.if_icmp .ge 101, 3) := by decide +kernel
theorem dX6_eats_20 : decode cX6_eats 20 = .ok (.iload_n 1, 1) := by decide +kernel
theorem dX6_eats_21 : decode cX6_eats 21 = .ok (.iload_n 3, 1) := by decide +kernel
theorem dX6_eats_22 : decode cX6_eats 22 = .ok (.ishr, 1) := by decide +kernel
theorem dX6_eats_23 : decode cX6_eats 23 = .ok (.iconst 1, 1) := by decide +kernel
theorem dX6_eats_24 : decode cX6_eats 24 = .ok (.iand, 1) := by decide +kernel
theorem dX6_eats_25 : decode cX6_eats 25 = .ok (.iconst 1, 1) := by decide +kernel
theorem dX6_eats_26 : decode cX6_eats 26 = .ok (.if_icmp .ne 11, 3) := by decide +kernel
theorem dX6_eats_29 : decode cX6_eats 29 = .ok (.aload_n 0, 1) := by decide +kernel
theorem dX6_eats_30 : decode cX6_eats 30 = .ok (.iload_n 3, 1) := by decide +kernel
theorem dX6_eats_31 : decode cX6_eats 31 = .ok (.invokevirtual 92, 3) := by decide +kernel
theorem dX6_eats_34 : decode cX6_eats 34 = .ok (.goto 4, 3) := by decide +kernel
theorem dX6_eats_37 : decode cX6_eats 37 = .ok (.iconst 0, 1) := by decide +kernel
theorem dX6_eats_38 : decode cX6_eats 38 = .ok (.istore 4, 2) := by decide +kernel
theorem dX6_eats_40 : decode cX6_eats 40 = .ok (.aload_n 0, 1) := by decide +kernel
theorem dX6_eats_41 : decode cX6_eats 41 = .ok (.getfield 22, 3) := by decide +kernel
theorem dX6_eats_44 : decode cX6_eats 44 = .ok (.bipush 14, 2) := by decide +kernel
theorem dX6_eats_46 : decode cX6_eats 46 = .ok (.iload_n 3, 1) := by decide +kernel
theorem dX6_eats_47 : decode cX6_eats 47 = .ok (.iadd, 1) := by decide +kernel
theorem dX6_eats_48 : decode cX6_eats 48 = .ok (.dup2, 1) := by decide +kernel
theorem dX6_eats_49 : decode cX6_eats 49 = .ok (.iaload, 1) := by decide +kernel
theorem dX6_eats_50 : decode cX6_eats 50 = .ok (.iload 4, 2) := by decide +kernel
theorem dX6_eats_52 : decode cX6_eats 52 = .ok (.isub, 1) := by decide +kernel
theorem dX6_eats_53 : decode cX6_eats 53 = .ok (.iastore, 1) := by decide +kernel
theorem dX6_eats_54 : decode cX6_eats 54 = .ok (.aload_n 0, 1) := by decide +kernel
theorem dX6_eats_55 : decode cX6_eats 55 = .ok (.getfield 22, 3) := by decide +kernel
theorem dX6_eats_58 : decode cX6_eats 58 = .ok (.bipush 21, 2) := by decide +kernel
theorem dX6_eats_60 : decode cX6_eats 60 = .ok (.iload_n 3, 1) := by decide +kernel
theorem dX6_eats_61 : decode cX6_eats 61 = .ok (.iadd, 1) := by decide +kernel
theorem dX6_eats_62 : decode cX6_eats 62 = .ok (.dup2, 1) := by decide +kernel
theorem dX6_eats_63 : decode cX6_eats 63 = .ok (.iaload, 1) := by decide +kernel
theorem dX6_eats_64 : decode cX6_eats 64 = .ok (.iload 4, 2) := by decide +kernel
theorem dX6_eats_66 : decode cX6_eats 66 = .ok (.iadd, 1) := by decide +kernel
theorem dX6_eats_67 : decode cX6_eats 67 = .ok (.iastore, 1) := by decide +kernel
theorem dX6_eats_68 : decode cX6_eats 68 = .ok (.aload_n 0, 1) := by decide +kernel
theorem dX6_eats_69 : decode cX6_eats 69 = .ok (.getfield 22, 3) := by decide +kernel
theorem dX6_eats_72 : decode cX6_eats 72 = .ok (.bipush 28, 2) := by decide +kernel
theorem dX6_eats_74 : decode cX6_eats 74 = .ok (.dup2, 1) := by decide +kernel
theorem dX6_eats_75 : decode cX6_eats 75 = .ok (.iaload, 1) := by decide +kernel
theorem dX6_eats_76 : decode cX6_eats 76 = .ok (.iload 4, 2) := by decide +kernel
theorem dX6_eats_78 : decode cX6_eats 78 = .ok (.isub, 1) := by decide +kernel
theorem dX6_eats_79 : decode cX6_eats 79 = .ok (.iastore, 1) := by decide +kernel
theorem dX6_eats_80 : decode cX6_eats 80 = .ok (.iload_n 2, 1) := by decide +kernel
theorem dX6_eats_81 : decode cX6_eats 81 = .ok (.iload 4, 2) := by decide +kernel
theorem dX6_eats_83 : decode cX6_eats 83 = .ok (.iadd, 1) := by decide +kernel
theorem dX6_eats_84 : decode cX6_eats 84 = .ok (.istore_n 2, 1) := by decide +kernel
theorem dX6_eats_85 : decode cX6_eats 85 = .ok (.aload_n 0, 1) := by decide +kernel
theorem dX6_eats_86 : decode cX6_eats 86 = .ok (.iload 4, 2) := by decide +kernel
theorem dX6_eats_88 : decode cX6_eats 88 = .ok (.ifCond .le 17, 3) := by decide +kernel
theorem dX6_eats_91 : decode cX6_eats 91 = .ok (.aload_n 0, 1) := by decide +kernel
theorem dX6_eats_92 : decode cX6_eats 92 = .ok (.getfield 22, 3) := by decide +kernel
theorem dX6_eats_95 : decode cX6_eats 95 = .ok (.bipush 28, 2) := by decide +kernel
theorem dX6_eats_97 : decode cX6_eats 97 = .ok (.iaload, 1) := by decide +kernel
theorem dX6_eats_98 : decode cX6_eats 98 = .ok (.ifCond .ne 7, 3) := by decide +kernel
theorem dX6_eats_101 : decode cX6_eats 101 = .ok (.iload_n 3, 1) := by decide +kernel
theorem dX6_eats_102 : decode cX6_eats 102 = .ok (.goto 7, 3) := by decide +kernel
theorem dX6_eats_105 : decode cX6_eats 105 = .ok (.aload_n 0, 1) := by decide +kernel
theorem dX6_eats_106 : decode cX6_eats 106 = .ok (.getfield 95, 3) := by decide +kernel
theorem dX6_eats_109 : decode cX6_eats 109 = .ok (.putfield 95, 3) := by decide +kernel
theorem dX6_eats_112 : decode cX6_eats 112 = .ok (.iinc 3 1, 3) := by decide +kernel
theorem dX6_eats_115 : decode cX6_eats 115 = .ok (.goto (-105), 3) := by decide +kernel
theorem dX6_eats_118 : decode cX6_eats 118 = .ok (.aload_n 0, 1) := by decide +kernel
theorem dX6_eats_119 : decode cX6_eats 119 = .ok (.invokevirtual 98, 3) := by decide +kernel
theorem dX6_eats_122 : decode cX6_eats 122 = .ok (.iload_n 2, 1) := by decide +kernel
theorem dX6_eats_123 : decode cX6_eats 123 = .ok (.ireturn, 1) := by decide +kernel
theorem dX6_eat_0 : decode cX6_eat 0 = .ok (.iload_n 1, 1) := by decide +kernel
theorem dX6_eat_1 : decode cX6_eat 1 = .ok (.iconst 1, 1) := by decide +kernel
theorem dX6_eat_2 : decode cX6_eat 2 = .ok (.bipush 20, 2) := by decide +kernel
theorem dX6_eat_4 : decode cX6_eat 4 = .ok (.invokestatic 50, 3) := by decide +kernel
theorem dX6_eat_7 : decode cX6_eat 7 = .ok (.ifCond .ne 5, 3) := by decide +kernel
theorem dX6_eat_10 : decode cX6_eat 10 = .ok (.iconst (-1), 1) := by decide +kernel
theorem dX6_eat_11 : decode cX6_eat 11 = .ok (.ireturn, 1) := by decide +kernel
theorem dX6_eat_12 : decode cX6_eat 12 = .ok (.aload_n 0, 1) := by decide +kernel
theorem dX6_eat_13 : decode cX6_eat 13 = .ok (.invokevirtual 101, 3) := by decide +kernel
theorem dX6_eat_16 : decode cX6_eat 16 = .ok (.iconst 0, 1) := by decide +kernel
theorem dX6_eat_17 : decode cX6_eat 17 = .ok (.istore_n 2, 1) := by decide +kernel
theorem dX6_eat_18 : decode cX6_eat 18 = .ok (.iconst 0, 1) := by decide +kernel
theorem dX6_eat_19 : decode cX6_eat 19 = .ok (.istore_n 3, 1) := by decide +kernel
theorem dX6_eat_20 : decode cX6_eat 20 = .ok (.iload_n 3, 1) := by decide +kernel
theorem dX6_eat_21 : decode cX6_eat 21 = .ok (.iload_n 1, 1) := by decide +kernel
theorem dX6_eat_22 : decode cX6_eat 22 = .ok (.if_icmp .ge 20, 3) := by decide +kernel
theorem dX6_eat_25 : decode cX6_eat 25 = .ok (.iload_n 2, 1) := by decide +kernel
theorem dX6_eat_26 : decode cX6_eat 26 = .ok (.aload_n 0, 1) := by decide +kernel
theorem dX6_eat_27 : decode cX6_eat 27 = .ok (.aload_n 0, 1) := by decide +kernel
theorem dX6_eat_28 : decode cX6_eat 28 = .ok (.invokevirtual 104, 3) := by decide +kernel
theorem dX6_eat_31 : decode cX6_eat 31 = .ok (.invokevirtual 107, 3) := by decide +kernel
theorem dX6_eat_34 : decode cX6_eat 34 = .ok (.iadd, 1) := by decide +kernel
theorem dX6_eat_35 : decode cX6_eat 35 = .ok (.istore_n 2, 1) := by decide +kernel
theorem dX6_eat_36 : decode cX6_eat 36 = .ok (.iinc 3 1, 3) := by decide +kernel
theorem dX6_eat_39 : decode cX6_eat 39 = .ok (.goto (-19), 3) := by decide +kernel
theorem dX6_eat_42 : decode cX6_eat 42 = .ok (.iload_n 2, 1) := by decide +kernel
theorem dX6_eat_43 : decode cX6_eat 43 = .ok (.ireturn, 1) := by decide +kernel
theorem dX6_salt_0 : decode cX6_salt 0 = .ok (.aload_n 0, 1) := by decide +kernel
theorem dX6_salt_1 : decode cX6_salt 1 = .ok (.getfield 22, 3) := by decide +kernel
theorem dX6_salt_4 : decode cX6_salt 4 = .ok (.bipush 30, 2) := by decide +kernel
theorem dX6_salt_6 : decode cX6_salt 6 = .ok (.iaload, 1) := by decide +kernel
theorem dX6_salt_7 : decode cX6_salt 7 = .ok (.bipush 9, 2) := by decide +kernel
theorem dX6_salt_9 : decode cX6_salt 9 = .ok (.if_icmp .ne 6, 3) := by decide +kernel
theorem dX6_salt_12 : decode cX6_salt 12 = .ok (.bipush (-2), 2) := by decide +kernel
theorem dX6_salt_14 : decode cX6_salt 14 = .ok (.ireturn, 1) := by decide +kernel
theorem dX6_salt_15 : decode cX6_salt 15 = .ok (.aload_n 0, 1) := by decide +kernel
theorem dX6_salt_16 : decode cX6_salt 16 = .ok (.invokevirtual 101, 3) := by decide +kernel
theorem dX6_salt_19 : decode cX6_salt 19 = .ok (.aload_n 0, 1) := by decide +kernel
theorem dX6_salt_20 : decode cX6_salt 20 = .ok (.getfield 22, 3) := by decide +kernel
theorem dX6_salt_23 : decode cX6_salt 23 = .ok (.bipush 30, 2) := by decide +kernel
theorem dX6_salt_25 : decode cX6_salt 25 = .ok (.dup2, 1) := by decide +kernel
theorem dX6_salt_26 : decode cX6_salt 26 = .ok (.iaload, 1) := by decide +kernel
theorem dX6_salt_27 : decode cX6_salt 27 = .ok (.iconst 1, 1) := by decide +kernel
theorem dX6_salt_28 : decode cX6_salt 28 = .ok (.iadd, 1) := by decide +kernel
theorem dX6_salt_29 : decode cX6_salt 29 = .ok (.iastore, 1) := by decide +kernel
theorem dX6_salt_30 : decode cX6_salt 30 = .ok (.aload_n 0, 1) := by decide +kernel
theorem dX6_salt_31 : decode cX6_salt 31 = .ok (.getfield 22, 3) := by decide +kernel
theorem dX6_salt_34 : decode cX6_salt 34 = .ok (.bipush 30, 2) := by decide +kernel
theorem dX6_salt_36 : decode cX6_salt 36 = .ok (.iaload, 1) := by decide +kernel
theorem dX6_salt_37 : decode cX6_salt 37 = .ok (.ireturn, 1) := by decide +kernel
theorem dX6_cooks_0 : decode cX6_cooks 0 = .ok (.aload_n 0, 1) := by decide +kernel
theorem dX6_cooks_1 : decode cX6_cooks 1 = .ok (.getfield 22, 3) := by decide +kernel
theorem dX6_cooks_4 : decode cX6_cooks 4 = .ok (.bipush 28, 2) := by decide +kernel
theorem dX6_cooks_6 : decode cX6_cooks 6 = .ok (.iload_n 1, 1) := by decide +kernel
theorem dX6_cooks_7 : decode cX6_cooks 7 = .ok (.iastore, 1) := by decide +kernel
theorem dX6_cooks_8 : decode cX6_cooks 8 = .ok (.aload_n 0, 1) := by decide +kernel
theorem dX6_cooks_9 : decode cX6_cooks 9 = .ok (.getfield 22, 3) := by decide +kernel
theorem dX6_cooks_12 : decode cX6_cooks 12 = .ok (.bipush 29, 2) := by decide +kernel
theorem dX6_cooks_14 : decode cX6_cooks 14 = .ok (.bipush 9, 2) := by decide +kernel
theorem dX6_cooks_16 : decode cX6_cooks 16 = .ok (.iastore, 1) := by decide +kernel
theorem dX6_cooks_17 : decode cX6_cooks 17 = .ok (.return_, 1) := by decide +kernel
theorem dX6_cook_0 : decode cX6_cook 0 = .ok (.iload_n 1, 1) := by decide +kernel
theorem dX6_cook_1 : decode cX6_cook 1 = .ok (.iconst 1, 1) := by decide +kernel
theorem dX6_cook_2 : decode cX6_cook 2 = .ok (.bipush 99, 2) := by decide +kernel
theorem dX6_cook_4 : decode cX6_cook 4 = .ok (.invokestatic 50, 3) := by decide +kernel
theorem dX6_cook_7 : decode cX6_cook 7 = .ok (.ifCond .ne 5, 3) := by decide +kernel
theorem dX6_cook_10 : decode cX6_cook 10 = .ok (.iconst (-1), 1) := by decide +kernel
theorem dX6_cook_11 : decode cX6_cook 11 = .ok (.ireturn, 1) := by decide +kernel
theorem dX6_cook_12 : decode cX6_cook 12 = .ok (.iload_n 1, 1) := by decide +kernel
theorem dX6_cook_13 : decode cX6_cook 13 = .ok (.aload_n 0, 1) := by decide +kernel
theorem dX6_cook_14 : decode cX6_cook 14 = .ok (.getfield 22, 3) := by decide +kernel
theorem dX6_cook_17 : decode cX6_cook 17 = .ok (.bipush 28, 2) := by decide +kernel
theorem dX6_cook_19 : decode cX6_cook 19 = .ok (.iaload, 1) := by decide +kernel
theorem dX6_cook_20 : decode cX6_cook 20 = .ok (.if_icmp .gt 6, 3) := by decide +kernel
theorem dX6_cook_23 : decode cX6_cook 23 = .ok (.bipush (-2), 2) := by decide +kernel
theorem dX6_cook_25 : decode cX6_cook 25 = .ok (.ireturn, 1) := by decide +kernel
theorem dX6_cook_26 : decode cX6_cook 26 = .ok (.aload_n 0, 1) := by decide +kernel
theorem dX6_cook_27 : decode cX6_cook 27 = .ok (.invokevirtual 101, 3) := by decide +kernel
theorem dX6_cook_30 : decode cX6_cook 30 = .ok (.aload_n 0, 1) := by decide +kernel
theorem dX6_cook_31 : decode cX6_cook 31 = .ok (.iload_n 1, 1) := by decide +kernel
theorem dX6_cook_32 : decode cX6_cook 32 = .ok (.invokevirtual 110, 3) := by decide +kernel
theorem dX6_cook_35 : decode cX6_cook 35 = .ok (.iload_n 1, 1) := by decide +kernel
theorem dX6_cook_36 : decode cX6_cook 36 = .ok (.ireturn, 1) := by decide +kernel
theorem dX6_cool_0 : decode cX6_cool 0 = .ok (.aload_n 0, 1) := by decide +kernel
theorem dX6_cool_1 : decode cX6_cool 1 = .ok (.getfield 22, 3) := by decide +kernel
theorem dX6_cool_4 : decode cX6_cool 4 = .ok (.bipush 29, 2) := by decide +kernel
theorem dX6_cool_6 : decode cX6_cool 6 = .ok (.iaload, 1) := by decide +kernel
theorem dX6_cool_7 : decode cX6_cool 7 = .ok (.ifCond .ne 6, 3) := by decide +kernel
theorem dX6_cool_10 : decode cX6_cool 10 = .ok (.bipush (-2), 2) := by decide +kernel
theorem dX6_cool_12 : decode cX6_cool 12 = .ok (.ireturn, 1) := by decide +kernel
theorem dX6_cool_13 : decode cX6_cool 13 = .ok (.aload_n 0, 1) := by decide +kernel
theorem dX6_cool_14 : decode cX6_cool 14 = .ok (.invokevirtual 101, 3) := by decide +kernel
theorem dX6_cool_17 : decode cX6_cool 17 = .ok (.aload_n 0, 1) := by decide +kernel
theorem dX6_cool_18 : decode cX6_cool 18 = .ok (.invokevirtual 98, 3) := by decide +kernel
theorem dX6_cool_21 : decode cX6_cool 21 = .ok (.aload_n 0, 1) := by decide +kernel
theorem dX6_cool_22 : decode cX6_cool 22 = .ok (.getfield 22, 3) := by decide +kernel
theorem dX6_cool_25 : decode cX6_cool 25 = .ok (.bipush 29, 2) := by decide +kernel
theorem dX6_cool_27 : decode cX6_cool 27 = .ok (.iaload, 1) := by decide +kernel
theorem dX6_cool_28 : decode cX6_cool 28 = .ok (.ireturn, 1) := by decide +kernel
theorem dX6_swaps_0 : decode cX6_swaps 0 = .ok (.aload_n 0, 1) := by decide +kernel
theorem dX6_swaps_1 : decode cX6_swaps 1 = .ok (.getfield 22, 3) := by decide +kernel
theorem dX6_swaps_4 : decode cX6_swaps 4 = .ok (.iload_n 1, 1) := by decide +kernel
theorem dX6_swaps_5 : decode cX6_swaps 5 = .ok (.iaload, 1) := by decide +kernel
theorem dX6_swaps_6 : decode cX6_swaps 6 = .ok (.istore_n 3, 1) := by decide +kernel
theorem dX6_swaps_7 : decode cX6_swaps 7 = .ok (.aload_n 0, 1) := by decide +kernel
theorem dX6_swaps_8 : decode cX6_swaps 8 = .ok (.getfield 22, 3) := by decide +kernel
theorem dX6_swaps_11 : decode cX6_swaps 11 = .ok (.bipush 7, 2) := by decide +kernel
theorem dX6_swaps_13 : decode cX6_swaps 13 = .ok (.iload_n 1, 1) := by decide +kernel
theorem dX6_swaps_14 : decode cX6_swaps 14 = .ok (.iadd, 1) := by decide +kernel
theorem dX6_swaps_15 : decode cX6_swaps 15 = .ok (.iaload, 1) := by decide +kernel
theorem dX6_swaps_16 : decode cX6_swaps 16 = .ok (.istore 4, 2) := by decide +kernel
theorem dX6_swaps_18 : decode cX6_swaps 18 = .ok (.aload_n 0, 1) := by decide +kernel
theorem dX6_swaps_19 : decode cX6_swaps 19 = .ok (.getfield 22, 3) := by decide +kernel
theorem dX6_swaps_22 : decode cX6_swaps 22 = .ok (.iload_n 1, 1) := by decide +kernel
theorem dX6_swaps_23 : decode cX6_swaps 23 = .ok (.aload_n 0, 1) := by decide +kernel
theorem dX6_swaps_24 : decode cX6_swaps 24 = .ok (.getfield 22, 3) := by decide +kernel
theorem dX6_swaps_27 : decode cX6_swaps 27 = .ok (.iload_n 2, 1) := by decide +kernel
theorem dX6_swaps_28 : decode cX6_swaps 28 = .ok (.iaload, 1) := by decide +kernel
theorem dX6_swaps_29 : decode cX6_swaps 29 = .ok (.iastore, 1) := by decide +kernel
theorem dX6_swaps_30 : decode cX6_swaps 30 = .ok (.aload_n 0, 1) := by decide +kernel
theorem dX6_swaps_31 : decode cX6_swaps 31 = .ok (.getfield 22, 3) := by decide +kernel
theorem dX6_swaps_34 : decode cX6_swaps 34 = .ok (.bipush 7, 2) := by decide +kernel
theorem dX6_swaps_36 : decode cX6_swaps 36 = .ok (.iload_n 1, 1) := by decide +kernel
theorem dX6_swaps_37 : decode cX6_swaps 37 = .ok (.iadd, 1) := by decide +kernel
theorem dX6_swaps_38 : decode cX6_swaps 38 = .ok (.aload_n 0, 1) := by decide +kernel
theorem dX6_swaps_39 : decode cX6_swaps 39 = .ok (.getfield 22, 3) := by decide +kernel
theorem dX6_swaps_42 : decode cX6_swaps 42 = .ok (.bipush 7, 2) := by decide +kernel
theorem dX6_swaps_44 : decode cX6_swaps 44 = .ok (.iload_n 2, 1) := by decide +kernel
theorem dX6_swaps_45 : decode cX6_swaps 45 = .ok (.iadd, 1) := by decide +kernel
theorem dX6_swaps_46 : decode cX6_swaps 46 = .ok (.iaload, 1) := by decide +kernel
theorem dX6_swaps_47 : decode cX6_swaps 47 = .ok (.iastore, 1) := by decide +kernel
theorem dX6_swaps_48 : decode cX6_swaps 48 = .ok (.aload_n 0, 1) := by decide +kernel
theorem dX6_swaps_49 : decode cX6_swaps 49 = .ok (.getfield 22, 3) := by decide +kernel
theorem dX6_swaps_52 : decode cX6_swaps 52 = .ok (.iload_n 2, 1) := by decide +kernel
theorem dX6_swaps_53 : decode cX6_swaps 53 = .ok (.iload_n 3, 1) := by decide +kernel
theorem dX6_swaps_54 : decode cX6_swaps 54 = .ok (.iastore, 1) := by decide +kernel
theorem dX6_swaps_55 : decode cX6_swaps 55 = .ok (.aload_n 0, 1) := by decide +kernel
theorem dX6_swaps_56 : decode cX6_swaps 56 = .ok (.getfield 22, 3) := by decide +kernel
theorem dX6_swaps_59 : decode cX6_swaps 59 = .ok (.bipush 7, 2) := by decide +kernel
theorem dX6_swaps_61 : decode cX6_swaps 61 = .ok (.iload_n 2, 1) := by decide +kernel
theorem dX6_swaps_62 : decode cX6_swaps 62 = .ok (.iadd, 1) := by decide +kernel
theorem dX6_swaps_63 : decode cX6_swaps 63 = .ok (.iload 4, 2) := by decide +kernel
theorem dX6_swaps_65 : decode cX6_swaps 65 = .ok (.iastore, 1) := by decide +kernel
theorem dX6_swaps_66 : decode cX6_swaps 66 = .ok (.return_, 1) := by decide +kernel
theorem dX6_trade_0 : decode cX6_trade 0 = .ok (.aload_n 0, 1) := by decide +kernel
theorem dX6_trade_1 : decode cX6_trade 1 = .ok (.iload_n 1, 1) := by decide +kernel
theorem dX6_trade_2 : decode cX6_trade 2 = .ok (.invokevirtual 89, 3) := by decide +kernel
theorem dX6_trade_5 : decode cX6_trade 5 = .ok (.ifCond .eq 16, 3) := by decide +kernel
theorem dX6_trade_8 : decode cX6_trade 8 = .ok (.aload_n 0, 1) := by decide +kernel
theorem dX6_trade_9 : decode cX6_trade 9 = .ok (.iload_n 2, 1) := by decide +kernel
theorem dX6_trade_10 : decode cX6_trade 10 = .ok (.invokevirtual 89, 3) := by decide +kernel
theorem dX6_trade_13 : decode cX6_trade 13 = .ok (.ifCond .eq 8, 3) := by decide +kernel
theorem dX6_trade_16 : decode cX6_trade 16 = .ok (.iload_n 1, 1) := by decide +kernel
theorem dX6_trade_17 : decode cX6_trade 17 = .ok (.iload_n 2, 1) := by decide +kernel
theorem dX6_trade_18 : decode cX6_trade 18 = .ok (.if_icmp .ne 5, 3) := by decide +kernel
theorem dX6_trade_21 : decode cX6_trade 21 = .ok (.iconst (-1), 1) := by decide +kernel
theorem dX6_trade_22 : decode cX6_trade 22 = .ok (.ireturn, 1) := by decide +kernel
theorem dX6_trade_23 : decode cX6_trade 23 = .ok (.aload_n 0, 1) := by decide +kernel
theorem dX6_trade_24 : decode cX6_trade 24 = .ok (.invokevirtual 101, 3) := by decide +kernel
theorem dX6_trade_27 : decode cX6_trade 27 = .ok (.aload_n 0, 1) := by decide +kernel
theorem dX6_trade_28 : decode cX6_trade 28 = .ok (.iload_n 1, 1) := by decide +kernel
theorem dX6_trade_29 : decode cX6_trade 29 = .ok (.iload_n 2, 1) := by decide +kernel
theorem dX6_trade_30 : decode cX6_trade 30 = .ok (.invokevirtual 114, 3) := by decide +kernel
theorem dX6_trade_33 : decode cX6_trade 33 = .ok (.aload_n 0, 1) := by decide +kernel
theorem dX6_trade_34 : decode cX6_trade 34 = .ok (.getfield 22, 3) := by decide +kernel
theorem dX6_trade_37 : decode cX6_trade 37 = .ok (.bipush 7, 2) := by decide +kernel
theorem dX6_trade_39 : decode cX6_trade 39 = .ok (.iload_n 1, 1) := by decide +kernel
end
section
theorem dX6_trade_40 : decode cX6_trade 40 = .ok (.iadd, 1) := by decide +kernel
theorem dX6_trade_41 : decode cX6_trade 41 = .ok (.iaload, 1) := by decide +kernel
theorem dX6_trade_42 : decode cX6_trade 42 = .ok (.ireturn, 1) := by decide +kernel
theorem dX6_sumOf_0 : decode cX6_sumOf 0 = .ok (.iconst 0, 1) := by decide +kernel
theorem dX6_sumOf_1 : decode cX6_sumOf 1 = .ok (.istore_n 2, 1) := by decide +kernel
theorem dX6_sumOf_2 : decode cX6_sumOf 2 = .ok (.iconst 0, 1) := by decide +kernel
theorem dX6_sumOf_3 : decode cX6_sumOf 3 = .ok (.istore_n 3, 1) := by decide +kernel
theorem dX6_sumOf_4 : decode cX6_sumOf 4 = .ok (.iload_n 3, 1) := by decide +kernel
theorem dX6_sumOf_5 : decode cX6_sumOf 5 = .ok (.aload_n 0, 1) := by decide +kernel
theorem dX6_sumOf_6 : decode cX6_sumOf 6 = .ok (.getfield 13, 3) := by decide +kernel
theorem dX6_sumOf_9 : decode cX6_sumOf 9 = .ok (.iconst 0, 1) := by decide +kernel
theorem dX6_sumOf_10 : decode cX6_sumOf 10 = .ok (.iaload, 1) := by decide +kernel
theorem dX6_sumOf_11 : decode cX6_sumOf 11 = .ok (.if_icmp .ge 20, 3) := by decide +kernel
theorem dX6_sumOf_14 : decode cX6_sumOf 14 = .ok (.iload_n 2, 1) := by decide +kernel
theorem dX6_sumOf_15 : decode cX6_sumOf 15 = .ok (.aload_n 0, 1) := by decide +kernel
theorem dX6_sumOf_16 : decode cX6_sumOf 16 = .ok (.getfield 22, 3) := by decide +kernel
theorem dX6_sumOf_19 : decode cX6_sumOf 19 = .ok (.iload_n 1, 1) := by decide +kernel
theorem dX6_sumOf_20 : decode cX6_sumOf 20 = .ok (.iload_n 3, 1) := by decide +kernel
theorem dX6_sumOf_21 : decode cX6_sumOf 21 = .ok (.iadd, 1) := by decide +kernel
theorem dX6_sumOf_22 : decode cX6_sumOf 22 = .ok (.iaload, 1) := by decide +kernel
theorem dX6_sumOf_23 : decode cX6_sumOf 23 = .ok (.iadd, 1) := by decide +kernel
theorem dX6_sumOf_24 : decode cX6_sumOf 24 = .ok (.istore_n 2, 1) := by decide +kernel
theorem dX6_sumOf_25 : decode cX6_sumOf 25 = .ok (.iinc 3 1, 3) := by decide +kernel
theorem dX6_sumOf_28 : decode cX6_sumOf 28 = .ok (.goto (-24), 3) := by decide +kernel
theorem dX6_sumOf_31 : decode cX6_sumOf 31 = .ok (.iload_n 2, 1) := by decide +kernel
theorem dX6_sumOf_32 : decode cX6_sumOf 32 = .ok (.ireturn, 1) := by decide +kernel
theorem dX6_starves_0 : decode cX6_starves 0 = .ok (.iconst 0, 1) := by decide +kernel
theorem dX6_starves_1 : decode cX6_starves 1 = .ok (.istore_n 1, 1) := by decide +kernel
theorem dX6_starves_2 : decode cX6_starves 2 = .ok (.iload_n 1, 1) := by decide +kernel
theorem dX6_starves_3 : decode cX6_starves 3 = .ok (.aload_n 0, 1) := by decide +kernel
theorem dX6_starves_4 : decode cX6_starves 4 = .ok (.getfield 13, 3) := by decide +kernel
theorem dX6_starves_7 : decode cX6_starves 7 = .ok (.iconst 0, 1) := by decide +kernel
theorem dX6_starves_8 : decode cX6_starves 8 = .ok (.iaload, 1) := by decide +kernel
theorem dX6_starves_9 : decode cX6_starves 9 = .ok (.if_icmp .ge 47, 3) := by decide +kernel
theorem dX6_starves_12 : decode cX6_starves 12 = .ok (.aload_n 0, 1) := by decide +kernel
theorem dX6_starves_13 : decode cX6_starves 13 = .ok (.getfield 22, 3) := by decide +kernel
theorem dX6_starves_16 : decode cX6_starves 16 = .ok (.bipush 14, 2) := by decide +kernel
theorem dX6_starves_18 : decode cX6_starves 18 = .ok (.iload_n 1, 1) := by decide +kernel
theorem dX6_starves_19 : decode cX6_starves 19 = .ok (.iadd, 1) := by decide +kernel
theorem dX6_starves_20 : decode cX6_starves 20 = .ok (.iaload, 1) := by decide +kernel
theorem dX6_starves_21 : decode cX6_starves 21 = .ok (.aload_n 0, 1) := by decide +kernel
theorem dX6_starves_22 : decode cX6_starves 22 = .ok (.getfield 13, 3) := by decide +kernel
theorem dX6_starves_25 : decode cX6_starves 25 = .ok (.iconst 2, 1) := by decide +kernel
theorem dX6_starves_26 : decode cX6_starves 26 = .ok (.iaload, 1) := by decide +kernel
theorem dX6_starves_27 : decode cX6_starves 27 = .ok (.iadd, 1) := by decide +kernel
theorem dX6_starves_28 : decode cX6_starves 28 = .ok (.istore_n 2, 1) := by decide +kernel
theorem dX6_starves_29 : decode cX6_starves 29 = .ok (.aload_n 0, 1) := by decide +kernel
theorem dX6_starves_30 : decode cX6_starves 30 = .ok (.getfield 22, 3) := by decide +kernel
theorem dX6_starves_33 : decode cX6_starves 33 = .ok (.bipush 14, 2) := by decide +kernel
theorem dX6_starves_35 : decode cX6_starves 35 = .ok (.iload_n 1, 1) := by decide +kernel
theorem dX6_starves_36 : decode cX6_starves 36 = .ok (.iadd, 1) := by decide +kernel
theorem dX6_starves_37 : decode cX6_starves 37 = .ok (.iload_n 2, 1) := by decide +kernel
theorem dX6_starves_38 : decode cX6_starves 38 = .ok (.bipush 60, 2) := by decide +kernel
theorem dX6_starves_40 : decode cX6_starves 40 = .ok (.if_icmp .le 8, 3) := by decide +kernel
theorem dX6_starves_43 : decode cX6_starves 43 = .ok (.bipush 60, 2) := by decide +kernel
theorem dX6_starves_45 : decode cX6_starves 45 = .ok (.goto 4, 3) := by decide +kernel
theorem dX6_starves_48 : decode cX6_starves 48 = .ok (.iload_n 2, 1) := by decide +kernel
theorem dX6_starves_49 : decode cX6_starves 49 = .ok (.iastore, 1) := by decide +kernel
theorem dX6_starves_50 : decode cX6_starves 50 = .ok (.iinc 1 1, 3) := by decide +kernel
theorem dX6_starves_53 : decode cX6_starves 53 = .ok (.goto (-51), 3) := by decide +kernel
theorem dX6_starves_56 : decode cX6_starves 56 = .ok (.aload_n 0, 1) := by decide +kernel
theorem dX6_starves_57 : decode cX6_starves 57 = .ok (.getfield 22, 3) := by decide +kernel
theorem dX6_starves_60 : decode cX6_starves 60 = .ok (.bipush 29, 2) := by decide +kernel
theorem dX6_starves_62 : decode cX6_starves 62 = .ok (.iconst 0, 1) := by decide +kernel
theorem dX6_starves_63 : decode cX6_starves 63 = .ok (.iastore, 1) := by decide +kernel
theorem dX6_starves_64 : decode cX6_starves 64 = .ok (.return_, 1) := by decide +kernel
theorem dX6_fast_0 : decode cX6_fast 0 = .ok (.aload_n 0, 1) := by decide +kernel
theorem dX6_fast_1 : decode cX6_fast 1 = .ok (.invokevirtual 101, 3) := by decide +kernel
theorem dX6_fast_4 : decode cX6_fast 4 = .ok (.aload_n 0, 1) := by decide +kernel
theorem dX6_fast_5 : decode cX6_fast 5 = .ok (.invokevirtual 118, 3) := by decide +kernel
theorem dX6_fast_8 : decode cX6_fast 8 = .ok (.aload_n 0, 1) := by decide +kernel
theorem dX6_fast_9 : decode cX6_fast 9 = .ok (.bipush 14, 2) := by decide +kernel
theorem dX6_fast_11 : decode cX6_fast 11 = .ok (.invokevirtual 121, 3) := by decide +kernel
theorem dX6_fast_14 : decode cX6_fast 14 = .ok (.ireturn, 1) := by decide +kernel
theorem dX6_undo_0 : decode cX6_undo 0 = .ok (.aload_n 0, 1) := by decide +kernel
theorem dX6_undo_1 : decode cX6_undo 1 = .ok (.getfield 80, 3) := by decide +kernel
theorem dX6_undo_4 : decode cX6_undo 4 = .ok (.ifCond .ne 6, 3) := by decide +kernel
theorem dX6_undo_7 : decode cX6_undo 7 = .ok (.bipush (-2), 2) := by decide +kernel
theorem dX6_undo_9 : decode cX6_undo 9 = .ok (.ireturn, 1) := by decide +kernel
theorem dX6_undo_10 : decode cX6_undo 10 = .ok (.aload_n 0, 1) := by decide +kernel
theorem dX6_undo_11 : decode cX6_undo 11 = .ok (.dup, 1) := by decide +kernel
theorem dX6_undo_12 : decode cX6_undo 12 = .ok (.getfield 80, 3) := by decide +kernel
theorem dX6_undo_15 : decode cX6_undo 15 = .ok (.iconst 1, 1) := by decide +kernel
theorem dX6_undo_16 : decode cX6_undo 16 = .ok (.isub, 1) := by decide +kernel
theorem dX6_undo_17 : decode cX6_undo 17 = .ok (.putfield 80, 3) := by decide +kernel
theorem dX6_undo_20 : decode cX6_undo 20 = .ok (.iconst 0, 1) := by decide +kernel
theorem dX6_undo_21 : decode cX6_undo 21 = .ok (.istore_n 1, 1) := by decide +kernel
theorem dX6_undo_22 : decode cX6_undo 22 = .ok (.iload_n 1, 1) := by decide +kernel
theorem dX6_undo_23 : decode cX6_undo 23 = .ok (.bipush 31, 2) := by decide +kernel
theorem dX6_undo_25 : decode cX6_undo 25 = .ok (.if_icmp .ge 29, 3) := by decide +kernel
theorem dX6_undo_28 : decode cX6_undo 28 = .ok (.aload_n 0, 1) := by decide +kernel
theorem dX6_undo_29 : decode cX6_undo 29 = .ok (.getfield 22, 3) := by decide +kernel
theorem dX6_undo_32 : decode cX6_undo 32 = .ok (.iload_n 1, 1) := by decide +kernel
theorem dX6_undo_33 : decode cX6_undo 33 = .ok (.aload_n 0, 1) := by decide +kernel
theorem dX6_undo_34 : decode cX6_undo 34 = .ok (.getfield 25, 3) := by decide +kernel
theorem dX6_undo_37 : decode cX6_undo 37 = .ok (.bipush 31, 2) := by decide +kernel
theorem dX6_undo_39 : decode cX6_undo 39 = .ok (.aload_n 0, 1) := by decide +kernel
theorem dX6_undo_40 : decode cX6_undo 40 = .ok (.getfield 80, 3) := by decide +kernel
theorem dX6_undo_43 : decode cX6_undo 43 = .ok (.imul, 1) := by decide +kernel
theorem dX6_undo_44 : decode cX6_undo 44 = .ok (.iload_n 1, 1) := by decide +kernel
theorem dX6_undo_45 : decode cX6_undo 45 = .ok (.iadd, 1) := by decide +kernel
theorem dX6_undo_46 : decode cX6_undo 46 = .ok (.iaload, 1) := by decide +kernel
theorem dX6_undo_47 : decode cX6_undo 47 = .ok (.iastore, 1) := by decide +kernel
theorem dX6_undo_48 : decode cX6_undo 48 = .ok (.iinc 1 1, 3) := by decide +kernel
theorem dX6_undo_51 : decode cX6_undo 51 = .ok (.goto (-29), 3) := by decide +kernel
theorem dX6_undo_54 : decode cX6_undo 54 = .ok (.aload_n 0, 1) := by decide +kernel
theorem dX6_undo_55 : decode cX6_undo 55 = .ok (.getfield 80, 3) := by decide +kernel
theorem dX6_undo_58 : decode cX6_undo 58 = .ok (.ireturn, 1) := by decide +kernel
theorem dX6_holds_0 : decode cX6_holds 0 = .ok (.iconst 0, 1) := by decide +kernel
theorem dX6_holds_1 : decode cX6_holds 1 = .ok (.istore_n 1, 1) := by decide +kernel
theorem dX6_holds_2 : decode cX6_holds 2 = .ok (.iload_n 1, 1) := by decide +kernel
theorem dX6_holds_3 : decode cX6_holds 3 = .ok (.bipush 31, 2) := by decide +kernel
theorem dX6_holds_5 : decode cX6_holds 5 = .ok (.if_icmp .ge 21, 3) := by decide +kernel
theorem dX6_holds_8 : decode cX6_holds 8 = .ok (.aload_n 0, 1) := by decide +kernel
theorem dX6_holds_9 : decode cX6_holds 9 = .ok (.getfield 34, 3) := by decide +kernel
theorem dX6_holds_12 : decode cX6_holds 12 = .ok (.iload_n 1, 1) := by decide +kernel
theorem dX6_holds_13 : decode cX6_holds 13 = .ok (.aload_n 0, 1) := by decide +kernel
theorem dX6_holds_14 : decode cX6_holds 14 = .ok (.getfield 22, 3) := by decide +kernel
theorem dX6_holds_17 : decode cX6_holds 17 = .ok (.iload_n 1, 1) := by decide +kernel
theorem dX6_holds_18 : decode cX6_holds 18 = .ok (.iaload, 1) := by decide +kernel
theorem dX6_holds_19 : decode cX6_holds 19 = .ok (.iastore, 1) := by decide +kernel
theorem dX6_holds_20 : decode cX6_holds 20 = .ok (.iinc 1 1, 3) := by decide +kernel
theorem dX6_holds_23 : decode cX6_holds 23 = .ok (.goto (-21), 3) := by decide +kernel
theorem dX6_holds_26 : decode cX6_holds 26 = .ok (.return_, 1) := by decide +kernel
theorem dX6_lets_0 : decode cX6_lets 0 = .ok (.iconst 0, 1) := by decide +kernel
theorem dX6_lets_1 : decode cX6_lets 1 = .ok (.istore_n 1, 1) := by decide +kernel
theorem dX6_lets_2 : decode cX6_lets 2 = .ok (.iload_n 1, 1) := by decide +kernel
theorem dX6_lets_3 : decode cX6_lets 3 = .ok (.bipush 31, 2) := by decide +kernel
theorem dX6_lets_5 : decode cX6_lets 5 = .ok (.if_icmp .ge 21, 3) := by decide +kernel
theorem dX6_lets_8 : decode cX6_lets 8 = .ok (.aload_n 0, 1) := by decide +kernel
theorem dX6_lets_9 : decode cX6_lets 9 = .ok (.getfield 22, 3) := by decide +kernel
theorem dX6_lets_12 : decode cX6_lets 12 = .ok (.iload_n 1, 1) := by decide +kernel
theorem dX6_lets_13 : decode cX6_lets 13 = .ok (.aload_n 0, 1) := by decide +kernel
theorem dX6_lets_14 : decode cX6_lets 14 = .ok (.getfield 34, 3) := by decide +kernel
theorem dX6_lets_17 : decode cX6_lets 17 = .ok (.iload_n 1, 1) := by decide +kernel
theorem dX6_lets_18 : decode cX6_lets 18 = .ok (.iaload, 1) := by decide +kernel
theorem dX6_lets_19 : decode cX6_lets 19 = .ok (.iastore, 1) := by decide +kernel
theorem dX6_lets_20 : decode cX6_lets 20 = .ok (.iinc 1 1, 3) := by decide +kernel
theorem dX6_lets_23 : decode cX6_lets 23 = .ok (.goto (-21), 3) := by decide +kernel
theorem dX6_lets_26 : decode cX6_lets 26 = .ok (.return_, 1) := by decide +kernel
theorem dX6_passesBy_0 : decode cX6_passesBy 0 = .ok (.iconst 0, 1) := by decide +kernel
theorem dX6_passesBy_1 : decode cX6_passesBy 1 = .ok (.istore_n 2, 1) := by decide +kernel
theorem dX6_passesBy_2 : decode cX6_passesBy 2 = .ok (.iload_n 2, 1) := by decide +kernel
theorem dX6_passesBy_3 : decode cX6_passesBy 3 = .ok (.bipush 31, 2) := by decide +kernel
theorem dX6_passesBy_5 : decode cX6_passesBy 5 = .ok (.if_icmp .ge 21, 3) := by decide +kernel
theorem dX6_passesBy_8 : decode cX6_passesBy 8 = .ok (.aload_n 0, 1) := by decide +kernel
theorem dX6_passesBy_9 : decode cX6_passesBy 9 = .ok (.getfield 37, 3) := by decide +kernel
theorem dX6_passesBy_12 : decode cX6_passesBy 12 = .ok (.iload_n 2, 1) := by decide +kernel
theorem dX6_passesBy_13 : decode cX6_passesBy 13 = .ok (.aload_n 0, 1) := by decide +kernel
theorem dX6_passesBy_14 : decode cX6_passesBy 14 = .ok (.getfield 22, 3) := by decide +kernel
theorem dX6_passesBy_17 : decode cX6_passesBy 17 = .ok (.iload_n 2, 1) := by decide +kernel
theorem dX6_passesBy_18 : decode cX6_passesBy 18 = .ok (.iaload, 1) := by decide +kernel
theorem dX6_passesBy_19 : decode cX6_passesBy 19 = .ok (.iastore, 1) := by decide +kernel
theorem dX6_passesBy_20 : decode cX6_passesBy 20 = .ok (.iinc 2 1, 3) := by decide +kernel
theorem dX6_passesBy_23 : decode cX6_passesBy 23 = .ok (.goto (-21), 3) := by decide +kernel
theorem dX6_passesBy_26 : decode cX6_passesBy 26 = .ok (.bipush (-4), 2) := by decide +kernel
theorem dX6_passesBy_28 : decode cX6_passesBy 28 = .ok (.istore_n 2, 1) := by decide +kernel
theorem dX6_passesBy_29 : decode cX6_passesBy 29 = .ok (.bipush (-4), 2) := by decide +kernel
theorem dX6_passesBy_31 : decode cX6_passesBy 31 = .ok (.istore_n 3, 1) := by decide +kernel
theorem dX6_passesBy_32 : decode cX6_passesBy 32 = .ok (.iconst 0, 1) := by decide +kernel
theorem dX6_passesBy_33 : decode cX6_passesBy 33 = .ok (.istore 4, 2) := by decide +kernel
theorem dX6_passesBy_35 : decode cX6_passesBy 35 = .ok (.iload 4, 2) := by decide +kernel
theorem dX6_passesBy_37 : decode cX6_passesBy 37 = .ok (.aload_n 0, 1) := by decide +kernel
theorem dX6_passesBy_38 : decode cX6_passesBy 38 = .ok (.getfield 13, 3) := by decide +kernel
theorem dX6_passesBy_41 : decode cX6_passesBy 41 = .ok (.iconst 1, 1) := by decide +kernel
theorem dX6_passesBy_42 : decode cX6_passesBy 42 = .ok (.iaload, 1) := by decide +kernel
theorem dX6_passesBy_43 : decode cX6_passesBy 43 = .ok (.if_icmp .gt 71, 3) := by decide +kernel
theorem dX6_passesBy_46 : decode cX6_passesBy 46 = .ok (.iload_n 2, 1) := by decide +kernel
theorem dX6_passesBy_47 : decode cX6_passesBy 47 = .ok (.bipush (-4), 2) := by decide +kernel
theorem dX6_passesBy_49 : decode cX6_passesBy 49 = .ok (.if_icmp .ne 65, 3) := by decide +kernel
theorem dX6_passesBy_52 : decode cX6_passesBy 52 = .ok (.aload_n 0, 1) := by decide +kernel
theorem dX6_passesBy_53 : decode cX6_passesBy 53 = .ok (.getfield 22, 3) := by decide +kernel
theorem dX6_passesBy_56 : decode cX6_passesBy 56 = .ok (.bipush 28, 2) := by decide +kernel
theorem dX6_passesBy_58 : decode cX6_passesBy 58 = .ok (.iaload, 1) := by decide +kernel
theorem dX6_passesBy_59 : decode cX6_passesBy 59 = .ok (.ifCond .ne 8, 3) := by decide +kernel
theorem dX6_passesBy_62 : decode cX6_passesBy 62 = .ok (.iload 4, 2) := by decide +kernel
theorem dX6_passesBy_64 : decode cX6_passesBy 64 = .ok (.goto 5, 3) := by decide +kernel
theorem dX6_passesBy_67 : decode cX6_passesBy 67 = .ok (.bipush (-4), 2) := by decide +kernel
theorem dX6_passesBy_69 : decode cX6_passesBy 69 = .ok (.istore_n 2, 1) := by decide +kernel
theorem dX6_passesBy_70 : decode cX6_passesBy 70 = .ok (.iload_n 2, 1) := by decide +kernel
theorem dX6_passesBy_71 : decode cX6_passesBy 71 = .ok (.bipush (-4), 2) := by decide +kernel
theorem dX6_passesBy_73 : decode cX6_passesBy 73 = .ok (.if_icmp .ne 8, 3) := by decide +kernel
theorem dX6_passesBy_76 : decode cX6_passesBy 76 = .ok (.bipush (-4), 2) := by decide +kernel
theorem dX6_passesBy_78 : decode cX6_passesBy 78 = .ok (.goto 17, 3) := by decide +kernel
theorem dX6_passesBy_81 : decode cX6_passesBy 81 = .ok (.iload 4, 2) := by decide +kernel
theorem dX6_passesBy_83 : decode cX6_passesBy 83 = .ok (.ifCond .ne 8, 3) := by decide +kernel
theorem dX6_passesBy_86 : decode cX6_passesBy 86 = .ok (.bipush (-4), 2) := by decide +kernel
theorem dX6_passesBy_88 : decode cX6_passesBy 88 = .ok (.goto 7, 3) := by decide +kernel
theorem dX6_passesBy_91 : decode cX6_passesBy 91 = .ok (.aload_n 0, 1) := by decide +kernel
theorem dX6_passesBy_92 : decode cX6_passesBy 92 = .ok (.getfield 95, 3) := by decide +kernel
theorem dX6_passesBy_95 : decode cX6_passesBy 95 = .ok (.istore_n 3, 1) := by decide +kernel
theorem dX6_passesBy_96 : decode cX6_passesBy 96 = .ok (.iload_n 2, 1) := by decide +kernel
theorem dX6_passesBy_97 : decode cX6_passesBy 97 = .ok (.bipush (-4), 2) := by decide +kernel
theorem dX6_passesBy_99 : decode cX6_passesBy 99 = .ok (.if_icmp .ne 9, 3) := by decide +kernel
theorem dX6_passesBy_102 : decode cX6_passesBy 102 = .ok (.aload_n 0, 1) := by decide +kernel
theorem dX6_passesBy_103 : decode cX6_passesBy 103 = .ok (.iload_n 1, 1) := by decide +kernel
theorem dX6_passesBy_104 : decode cX6_passesBy 104 = .ok (.invokevirtual 107, 3) := by decide +kernel
theorem dX6_passesBy_107 : decode cX6_passesBy 107 = .ok (.pop, 1) := by decide +kernel
theorem dX6_passesBy_108 : decode cX6_passesBy 108 = .ok (.iinc 4 1, 3) := by decide +kernel
theorem dX6_passesBy_111 : decode cX6_passesBy 111 = .ok (.goto (-76), 3) := by decide +kernel
theorem dX6_passesBy_114 : decode cX6_passesBy 114 = .ok (.aload_n 0, 1) := by decide +kernel
theorem dX6_passesBy_115 : decode cX6_passesBy 115 = .ok (.iload_n 3, 1) := by decide +kernel
theorem dX6_passesBy_116 : decode cX6_passesBy 116 = .ok (.putfield 95, 3) := by decide +kernel
theorem dX6_passesBy_119 : decode cX6_passesBy 119 = .ok (.iconst 0, 1) := by decide +kernel
theorem dX6_passesBy_120 : decode cX6_passesBy 120 = .ok (.istore 4, 2) := by decide +kernel
theorem dX6_passesBy_122 : decode cX6_passesBy 122 = .ok (.iload 4, 2) := by decide +kernel
theorem dX6_passesBy_124 : decode cX6_passesBy 124 = .ok (.bipush 31, 2) := by decide +kernel
theorem dX6_passesBy_126 : decode cX6_passesBy 126 = .ok (.if_icmp .ge 23, 3) := by decide +kernel
theorem dX6_passesBy_129 : decode cX6_passesBy 129 = .ok (.aload_n 0, 1) := by decide +kernel
theorem dX6_passesBy_130 : decode cX6_passesBy 130 = .ok (.getfield 22, 3) := by decide +kernel
theorem dX6_passesBy_133 : decode cX6_passesBy 133 = .ok (.iload 4, 2) := by decide +kernel
theorem dX6_passesBy_135 : decode cX6_passesBy 135 = .ok (.aload_n 0, 1) := by decide +kernel
theorem dX6_passesBy_136 : decode cX6_passesBy 136 = .ok (.getfield 37, 3) := by decide +kernel
theorem dX6_passesBy_139 : decode cX6_passesBy 139 = .ok (.iload 4, 2) := by decide +kernel
theorem dX6_passesBy_141 : decode cX6_passesBy 141 = .ok (.iaload, 1) := by decide +kernel
theorem dX6_passesBy_142 : decode cX6_passesBy 142 = .ok (.iastore, 1) := by decide +kernel
theorem dX6_passesBy_143 : decode cX6_passesBy 143 = .ok (.iinc 4 1, 3) := by decide +kernel
theorem dX6_passesBy_146 : decode cX6_passesBy 146 = .ok (.goto (-24), 3) := by decide +kernel
theorem dX6_passesBy_149 : decode cX6_passesBy 149 = .ok (.iload_n 2, 1) := by decide +kernel
theorem dX6_passesBy_150 : decode cX6_passesBy 150 = .ok (.ireturn, 1) := by decide +kernel
theorem dX6_isPassed_0 : decode cX6_isPassed 0 = .ok (.aload_n 0, 1) := by decide +kernel
theorem dX6_isPassed_1 : decode cX6_isPassed 1 = .ok (.iload_n 1, 1) := by decide +kernel
theorem dX6_isPassed_2 : decode cX6_isPassed 2 = .ok (.invokevirtual 124, 3) := by decide +kernel
theorem dX6_isPassed_5 : decode cX6_isPassed 5 = .ok (.bipush (-4), 2) := by decide +kernel
theorem dX6_isPassed_7 : decode cX6_isPassed 7 = .ok (.if_icmp .eq 7, 3) := by decide +kernel
theorem dX6_isPassed_10 : decode cX6_isPassed 10 = .ok (.iconst 1, 1) := by decide +kernel
theorem dX6_isPassed_11 : decode cX6_isPassed 11 = .ok (.goto 4, 3) := by decide +kernel
theorem dX6_isPassed_14 : decode cX6_isPassed 14 = .ok (.iconst 0, 1) := by decide +kernel
theorem dX6_isPassed_15 : decode cX6_isPassed 15 = .ok (.ireturn, 1) := by decide +kernel
theorem dX6_passes_0 : decode cX6_passes 0 = .ok (.aload_n 0, 1) := by decide +kernel
theorem dX6_passes_1 : decode cX6_passes 1 = .ok (.aload_n 0, 1) := by decide +kernel
theorem dX6_passes_2 : decode cX6_passes 2 = .ok (.invokevirtual 104, 3) := by decide +kernel
theorem dX6_passes_5 : decode cX6_passes 5 = .ok (.invokevirtual 124, 3) := by decide +kernel
theorem dX6_passes_8 : decode cX6_passes 8 = .ok (.ireturn, 1) := by decide +kernel
theorem dX6_left_0 : decode cX6_left 0 = .ok (.iload_n 1, 1) := by decide +kernel
theorem dX6_left_1 : decode cX6_left 1 = .ok (.iconst 0, 1) := by decide +kernel
theorem dX6_left_2 : decode cX6_left 2 = .ok (.bipush 20, 2) := by decide +kernel
theorem dX6_left_4 : decode cX6_left 4 = .ok (.invokestatic 50, 3) := by decide +kernel
theorem dX6_left_7 : decode cX6_left 7 = .ok (.ifCond .ne 5, 3) := by decide +kernel
theorem dX6_left_10 : decode cX6_left 10 = .ok (.iconst (-1), 1) := by decide +kernel
theorem dX6_left_11 : decode cX6_left 11 = .ok (.ireturn, 1) := by decide +kernel
theorem dX6_left_12 : decode cX6_left 12 = .ok (.aload_n 0, 1) := by decide +kernel
theorem dX6_left_13 : decode cX6_left 13 = .ok (.invokevirtual 127, 3) := by decide +kernel
theorem dX6_left_16 : decode cX6_left 16 = .ok (.iconst 0, 1) := by decide +kernel
theorem dX6_left_17 : decode cX6_left 17 = .ok (.istore_n 2, 1) := by decide +kernel
theorem dX6_left_18 : decode cX6_left 18 = .ok (.iload_n 2, 1) := by decide +kernel
theorem dX6_left_19 : decode cX6_left 19 = .ok (.iload_n 1, 1) := by decide +kernel
theorem dX6_left_20 : decode cX6_left 20 = .ok (.if_icmp .ge 18, 3) := by decide +kernel
theorem dX6_left_23 : decode cX6_left 23 = .ok (.aload_n 0, 1) := by decide +kernel
theorem dX6_left_24 : decode cX6_left 24 = .ok (.aload_n 0, 1) := by decide +kernel
theorem dX6_left_25 : decode cX6_left 25 = .ok (.invokevirtual 104, 3) := by decide +kernel
theorem dX6_left_28 : decode cX6_left 28 = .ok (.invokevirtual 107, 3) := by decide +kernel
theorem dX6_left_31 : decode cX6_left 31 = .ok (.pop, 1) := by decide +kernel
theorem dX6_left_32 : decode cX6_left 32 = .ok (.iinc 2 1, 3) := by decide +kernel
theorem dX6_left_35 : decode cX6_left 35 = .ok (.goto (-17), 3) := by decide +kernel
theorem dX6_left_38 : decode cX6_left 38 = .ok (.aload_n 0, 1) := by decide +kernel
theorem dX6_left_39 : decode cX6_left 39 = .ok (.getfield 22, 3) := by decide +kernel
theorem dX6_left_42 : decode cX6_left 42 = .ok (.bipush 28, 2) := by decide +kernel
theorem dX6_left_44 : decode cX6_left 44 = .ok (.iaload, 1) := by decide +kernel
theorem dX6_left_45 : decode cX6_left 45 = .ok (.istore_n 2, 1) := by decide +kernel
theorem dX6_left_46 : decode cX6_left 46 = .ok (.aload_n 0, 1) := by decide +kernel
theorem dX6_left_47 : decode cX6_left 47 = .ok (.invokevirtual 130, 3) := by decide +kernel
theorem dX6_left_50 : decode cX6_left 50 = .ok (.iload_n 2, 1) := by decide +kernel
theorem dX6_left_51 : decode cX6_left 51 = .ok (.ireturn, 1) := by decide +kernel
theorem dX6_scraper_0 : decode cX6_scraper 0 = .ok (.aload_n 0, 1) := by decide +kernel
theorem dX6_scraper_1 : decode cX6_scraper 1 = .ok (.aload_n 0, 1) := by decide +kernel
theorem dX6_scraper_2 : decode cX6_scraper 2 = .ok (.invokevirtual 104, 3) := by decide +kernel
theorem dX6_scraper_5 : decode cX6_scraper 5 = .ok (.invokevirtual 133, 3) := by decide +kernel
theorem dX6_scraper_8 : decode cX6_scraper 8 = .ok (.ifCond .eq 10, 3) := by decide +kernel
theorem dX6_scraper_11 : decode cX6_scraper 11 = .ok (.aload_n 0, 1) := by decide +kernel
theorem dX6_scraper_12 : decode cX6_scraper 12 = .ok (.getfield 95, 3) := by decide +kernel
theorem dX6_scraper_15 : decode cX6_scraper 15 = .ok (.goto 5, 3) := by decide +kernel
theorem dX6_scraper_18 : decode cX6_scraper 18 = .ok (.bipush (-4), 2) := by decide +kernel
theorem dX6_scraper_20 : decode cX6_scraper 20 = .ok (.ireturn, 1) := by decide +kernel
theorem dX6_spoil_0 : decode cX6_spoil 0 = .ok (.aload_n 0, 1) := by decide +kernel
theorem dX6_spoil_1 : decode cX6_spoil 1 = .ok (.getfield 22, 3) := by decide +kernel
theorem dX6_spoil_4 : decode cX6_spoil 4 = .ok (.bipush 30, 2) := by decide +kernel
theorem dX6_spoil_6 : decode cX6_spoil 6 = .ok (.iaload, 1) := by decide +kernel
theorem dX6_spoil_7 : decode cX6_spoil 7 = .ok (.istore_n 1, 1) := by decide +kernel
theorem dX6_spoil_8 : decode cX6_spoil 8 = .ok (.bipush (-4), 2) := by decide +kernel
theorem dX6_spoil_10 : decode cX6_spoil 10 = .ok (.istore_n 2, 1) := by decide +kernel
theorem dX6_spoil_11 : decode cX6_spoil 11 = .ok (.bipush 9, 2) := by decide +kernel
theorem dX6_spoil_13 : decode cX6_spoil 13 = .ok (.iload_n 1, 1) := by decide +kernel
theorem dX6_spoil_14 : decode cX6_spoil 14 = .ok (.isub, 1) := by decide +kernel
theorem dX6_spoil_15 : decode cX6_spoil 15 = .ok (.istore_n 3, 1) := by decide +kernel
theorem dX6_spoil_16 : decode cX6_spoil 16 = .ok (.iload_n 3, 1) := by decide +kernel
theorem dX6_spoil_17 : decode cX6_spoil 17 = .ok (.ifCond .lt 36, 3) := by decide +kernel
theorem dX6_spoil_20 : decode cX6_spoil 20 = .ok (.aload_n 0, 1) := by decide +kernel
theorem dX6_spoil_21 : decode cX6_spoil 21 = .ok (.getfield 22, 3) := by decide +kernel
theorem dX6_spoil_24 : decode cX6_spoil 24 = .ok (.bipush 30, 2) := by decide +kernel
theorem dX6_spoil_26 : decode cX6_spoil 26 = .ok (.iload_n 1, 1) := by decide +kernel
theorem dX6_spoil_27 : decode cX6_spoil 27 = .ok (.iload_n 3, 1) := by decide +kernel
theorem dX6_spoil_28 : decode cX6_spoil 28 = .ok (.iadd, 1) := by decide +kernel
theorem dX6_spoil_29 : decode cX6_spoil 29 = .ok (.iastore, 1) := by decide +kernel
theorem dX6_spoil_30 : decode cX6_spoil 30 = .ok (.aload_n 0, 1) := by decide +kernel
theorem dX6_spoil_31 : decode cX6_spoil 31 = .ok (.aload_n 0, 1) := by decide +kernel
theorem dX6_spoil_32 : decode cX6_spoil 32 = .ok (.invokevirtual 104, 3) := by decide +kernel
theorem dX6_spoil_35 : decode cX6_spoil 35 = .ok (.invokevirtual 133, 3) := by decide +kernel
theorem dX6_spoil_38 : decode cX6_spoil 38 = .ok (.ifCond .eq 7, 3) := by decide +kernel
theorem dX6_spoil_41 : decode cX6_spoil 41 = .ok (.iload_n 2, 1) := by decide +kernel
theorem dX6_spoil_42 : decode cX6_spoil 42 = .ok (.goto 4, 3) := by decide +kernel
theorem dX6_spoil_45 : decode cX6_spoil 45 = .ok (.iload_n 3, 1) := by decide +kernel
theorem dX6_spoil_46 : decode cX6_spoil 46 = .ok (.istore_n 2, 1) := by decide +kernel
theorem dX6_spoil_47 : decode cX6_spoil 47 = .ok (.iinc 3 (-1), 3) := by decide +kernel
theorem dX6_spoil_50 : decode cX6_spoil 50 = .ok (.goto (-34), 3) := by decide +kernel
theorem dX6_spoil_53 : decode cX6_spoil 53 = .ok (.aload_n 0, 1) := by decide +kernel
theorem dX6_spoil_54 : decode cX6_spoil 54 = .ok (.getfield 22, 3) := by decide +kernel
theorem dX6_spoil_57 : decode cX6_spoil 57 = .ok (.bipush 30, 2) := by decide +kernel
theorem dX6_spoil_59 : decode cX6_spoil 59 = .ok (.iload_n 1, 1) := by decide +kernel
theorem dX6_spoil_60 : decode cX6_spoil 60 = .ok (.iastore, 1) := by decide +kernel
theorem dX6_spoil_61 : decode cX6_spoil 61 = .ok (.iload_n 2, 1) := by decide +kernel
theorem dX6_spoil_62 : decode cX6_spoil 62 = .ok (.ireturn, 1) := by decide +kernel
theorem dX6_waits_0 : decode cX6_waits 0 = .ok (.aload_n 0, 1) := by decide +kernel
theorem dX6_waits_1 : decode cX6_waits 1 = .ok (.getfield 22, 3) := by decide +kernel
theorem dX6_waits_4 : decode cX6_waits 4 = .ok (.bipush 29, 2) := by decide +kernel
theorem dX6_waits_6 : decode cX6_waits 6 = .ok (.iaload, 1) := by decide +kernel
theorem dX6_waits_7 : decode cX6_waits 7 = .ok (.istore_n 1, 1) := by decide +kernel
theorem dX6_waits_8 : decode cX6_waits 8 = .ok (.bipush (-4), 2) := by decide +kernel
theorem dX6_waits_10 : decode cX6_waits 10 = .ok (.istore_n 2, 1) := by decide +kernel
theorem dX6_waits_11 : decode cX6_waits 11 = .ok (.bipush 9, 2) := by decide +kernel
theorem dX6_waits_13 : decode cX6_waits 13 = .ok (.istore_n 3, 1) := by decide +kernel
theorem dX6_waits_14 : decode cX6_waits 14 = .ok (.iload_n 3, 1) := by decide +kernel
theorem dX6_waits_15 : decode cX6_waits 15 = .ok (.ifCond .lt 45, 3) := by decide +kernel
theorem dX6_waits_18 : decode cX6_waits 18 = .ok (.aload_n 0, 1) := by decide +kernel
theorem dX6_waits_19 : decode cX6_waits 19 = .ok (.getfield 22, 3) := by decide +kernel
theorem dX6_waits_22 : decode cX6_waits 22 = .ok (.bipush 29, 2) := by decide +kernel
theorem dX6_waits_24 : decode cX6_waits 24 = .ok (.iload_n 1, 1) := by decide +kernel
theorem dX6_waits_25 : decode cX6_waits 25 = .ok (.iload_n 3, 1) := by decide +kernel
theorem dX6_waits_26 : decode cX6_waits 26 = .ok (.if_icmp .ge 7, 3) := by decide +kernel
theorem dX6_waits_29 : decode cX6_waits 29 = .ok (.iconst 0, 1) := by decide +kernel
theorem dX6_waits_30 : decode cX6_waits 30 = .ok (.goto 6, 3) := by decide +kernel
theorem dX6_waits_33 : decode cX6_waits 33 = .ok (.iload_n 1, 1) := by decide +kernel
theorem dX6_waits_34 : decode cX6_waits 34 = .ok (.iload_n 3, 1) := by decide +kernel
theorem dX6_waits_35 : decode cX6_waits 35 = .ok (.isub, 1) := by decide +kernel
theorem dX6_waits_36 : decode cX6_waits 36 = .ok (.iastore, 1) := by decide +kernel
theorem dX6_waits_37 : decode cX6_waits 37 = .ok (.aload_n 0, 1) := by decide +kernel
theorem dX6_waits_38 : decode cX6_waits 38 = .ok (.aload_n 0, 1) := by decide +kernel
theorem dX6_waits_39 : decode cX6_waits 39 = .ok (.invokevirtual 104, 3) := by decide +kernel
theorem dX6_waits_42 : decode cX6_waits 42 = .ok (.invokevirtual 133, 3) := by decide +kernel
theorem dX6_waits_45 : decode cX6_waits 45 = .ok (.ifCond .eq 7, 3) := by decide +kernel
theorem dX6_waits_48 : decode cX6_waits 48 = .ok (.iload_n 3, 1) := by decide +kernel
theorem dX6_waits_49 : decode cX6_waits 49 = .ok (.goto 4, 3) := by decide +kernel
theorem dX6_waits_52 : decode cX6_waits 52 = .ok (.iload_n 2, 1) := by decide +kernel
theorem dX6_waits_53 : decode cX6_waits 53 = .ok (.istore_n 2, 1) := by decide +kernel
theorem dX6_waits_54 : decode cX6_waits 54 = .ok (.iinc 3 (-1), 3) := by decide +kernel
theorem dX6_waits_57 : decode cX6_waits 57 = .ok (.goto (-43), 3) := by decide +kernel
theorem dX6_waits_60 : decode cX6_waits 60 = .ok (.aload_n 0, 1) := by decide +kernel
theorem dX6_waits_61 : decode cX6_waits 61 = .ok (.getfield 22, 3) := by decide +kernel
theorem dX6_waits_64 : decode cX6_waits 64 = .ok (.bipush 29, 2) := by decide +kernel
theorem dX6_waits_66 : decode cX6_waits 66 = .ok (.iload_n 1, 1) := by decide +kernel
theorem dX6_waits_67 : decode cX6_waits 67 = .ok (.iastore, 1) := by decide +kernel
theorem dX6_waits_68 : decode cX6_waits 68 = .ok (.iload_n 2, 1) := by decide +kernel
theorem dX6_waits_69 : decode cX6_waits 69 = .ok (.ireturn, 1) := by decide +kernel
theorem dX6_most_0 : decode cX6_most 0 = .ok (.aload_n 0, 1) := by decide +kernel
theorem dX6_most_1 : decode cX6_most 1 = .ok (.getfield 22, 3) := by decide +kernel
theorem dX6_most_4 : decode cX6_most 4 = .ok (.bipush 28, 2) := by decide +kernel
theorem dX6_most_6 : decode cX6_most 6 = .ok (.iaload, 1) := by decide +kernel
theorem dX6_most_7 : decode cX6_most 7 = .ok (.istore_n 1, 1) := by decide +kernel
theorem dX6_most_8 : decode cX6_most 8 = .ok (.iconst 0, 1) := by decide +kernel
theorem dX6_most_9 : decode cX6_most 9 = .ok (.istore_n 2, 1) := by decide +kernel
theorem dX6_most_10 : decode cX6_most 10 = .ok (.iconst 1, 1) := by decide +kernel
theorem dX6_most_11 : decode cX6_most 11 = .ok (.istore_n 3, 1) := by decide +kernel
theorem dX6_most_12 : decode cX6_most 12 = .ok (.iload_n 3, 1) := by decide +kernel
theorem dX6_most_13 : decode cX6_most 13 = .ok (.bipush 99, 2) := by decide +kernel
theorem dX6_most_15 : decode cX6_most 15 = .ok (.if_icmp .gt 34, 3) := by decide +kernel
theorem dX6_most_18 : decode cX6_most 18 = .ok (.aload_n 0, 1) := by decide +kernel
theorem dX6_most_19 : decode cX6_most 19 = .ok (.getfield 22, 3) := by decide +kernel
theorem dX6_most_22 : decode cX6_most 22 = .ok (.bipush 28, 2) := by decide +kernel
theorem dX6_most_24 : decode cX6_most 24 = .ok (.iload_n 3, 1) := by decide +kernel
theorem dX6_most_25 : decode cX6_most 25 = .ok (.iastore, 1) := by decide +kernel
theorem dX6_most_26 : decode cX6_most 26 = .ok (.aload_n 0, 1) := by decide +kernel
theorem dX6_most_27 : decode cX6_most 27 = .ok (.aload_n 0, 1) := by decide +kernel
theorem dX6_most_28 : decode cX6_most 28 = .ok (.invokevirtual 104, 3) := by decide +kernel
theorem dX6_most_31 : decode cX6_most 31 = .ok (.invokevirtual 133, 3) := by decide +kernel
theorem dX6_most_34 : decode cX6_most 34 = .ok (.ifCond .eq 7, 3) := by decide +kernel
theorem dX6_most_37 : decode cX6_most 37 = .ok (.iload_n 3, 1) := by decide +kernel
theorem dX6_most_38 : decode cX6_most 38 = .ok (.goto 4, 3) := by decide +kernel
theorem dX6_most_41 : decode cX6_most 41 = .ok (.iload_n 2, 1) := by decide +kernel
theorem dX6_most_42 : decode cX6_most 42 = .ok (.istore_n 2, 1) := by decide +kernel
theorem dX6_most_43 : decode cX6_most 43 = .ok (.iinc 3 1, 3) := by decide +kernel
theorem dX6_most_46 : decode cX6_most 46 = .ok (.goto (-34), 3) := by decide +kernel
theorem dX6_most_49 : decode cX6_most 49 = .ok (.aload_n 0, 1) := by decide +kernel
theorem dX6_most_50 : decode cX6_most 50 = .ok (.getfield 22, 3) := by decide +kernel
theorem dX6_most_53 : decode cX6_most 53 = .ok (.bipush 28, 2) := by decide +kernel
theorem dX6_most_55 : decode cX6_most 55 = .ok (.iload_n 1, 1) := by decide +kernel
theorem dX6_most_56 : decode cX6_most 56 = .ok (.iastore, 1) := by decide +kernel
theorem dX6_most_57 : decode cX6_most 57 = .ok (.iload_n 2, 1) := by decide +kernel
theorem dX6_most_58 : decode cX6_most 58 = .ok (.ireturn, 1) := by decide +kernel
theorem dX6_fasts_0 : decode cX6_fasts 0 = .ok (.aload_n 0, 1) := by decide +kernel
theorem dX6_fasts_1 : decode cX6_fasts 1 = .ok (.invokevirtual 127, 3) := by decide +kernel
theorem dX6_fasts_4 : decode cX6_fasts 4 = .ok (.bipush (-4), 2) := by decide +kernel
theorem dX6_fasts_6 : decode cX6_fasts 6 = .ok (.istore_n 1, 1) := by decide +kernel
theorem dX6_fasts_7 : decode cX6_fasts 7 = .ok (.iconst 0, 1) := by decide +kernel
theorem dX6_fasts_8 : decode cX6_fasts 8 = .ok (.istore_n 2, 1) := by decide +kernel
theorem dX6_fasts_9 : decode cX6_fasts 9 = .ok (.iload_n 2, 1) := by decide +kernel
theorem dX6_fasts_10 : decode cX6_fasts 10 = .ok (.bipush 11, 2) := by decide +kernel
theorem dX6_fasts_12 : decode cX6_fasts 12 = .ok (.if_icmp .ge 37, 3) := by decide +kernel
theorem dX6_fasts_15 : decode cX6_fasts 15 = .ok (.iload_n 1, 1) := by decide +kernel
theorem dX6_fasts_16 : decode cX6_fasts 16 = .ok (.bipush (-4), 2) := by decide +kernel
theorem dX6_fasts_18 : decode cX6_fasts 18 = .ok (.if_icmp .ne 31, 3) := by decide +kernel
theorem dX6_fasts_21 : decode cX6_fasts 21 = .ok (.aload_n 0, 1) := by decide +kernel
theorem dX6_fasts_22 : decode cX6_fasts 22 = .ok (.aload_n 0, 1) := by decide +kernel
theorem dX6_fasts_23 : decode cX6_fasts 23 = .ok (.invokevirtual 104, 3) := by decide +kernel
theorem dX6_fasts_26 : decode cX6_fasts 26 = .ok (.invokevirtual 133, 3) := by decide +kernel
theorem dX6_fasts_29 : decode cX6_fasts 29 = .ok (.ifCond .eq 7, 3) := by decide +kernel
theorem dX6_fasts_32 : decode cX6_fasts 32 = .ok (.iload_n 2, 1) := by decide +kernel
theorem dX6_fasts_33 : decode cX6_fasts 33 = .ok (.goto 5, 3) := by decide +kernel
theorem dX6_fasts_36 : decode cX6_fasts 36 = .ok (.bipush (-4), 2) := by decide +kernel
theorem dX6_fasts_38 : decode cX6_fasts 38 = .ok (.istore_n 1, 1) := by decide +kernel
theorem dX6_fasts_39 : decode cX6_fasts 39 = .ok (.aload_n 0, 1) := by decide +kernel
theorem dX6_fasts_40 : decode cX6_fasts 40 = .ok (.invokevirtual 118, 3) := by decide +kernel
theorem dX6_fasts_43 : decode cX6_fasts 43 = .ok (.iinc 2 1, 3) := by decide +kernel
theorem dX6_fasts_46 : decode cX6_fasts 46 = .ok (.goto (-37), 3) := by decide +kernel
theorem dX6_fasts_49 : decode cX6_fasts 49 = .ok (.aload_n 0, 1) := by decide +kernel
theorem dX6_fasts_50 : decode cX6_fasts 50 = .ok (.invokevirtual 130, 3) := by decide +kernel
theorem dX6_fasts_53 : decode cX6_fasts 53 = .ok (.iload_n 1, 1) := by decide +kernel
theorem dX6_fasts_54 : decode cX6_fasts 54 = .ok (.ireturn, 1) := by decide +kernel
theorem dX6_cabal_0 : decode cX6_cabal 0 = .ok (.iload_n 1, 1) := by decide +kernel
theorem dX6_cabal_1 : decode cX6_cabal 1 = .ok (.iconst 0, 1) := by decide +kernel
theorem dX6_cabal_2 : decode cX6_cabal 2 = .ok (.iconst 1, 1) := by decide +kernel
theorem dX6_cabal_3 : decode cX6_cabal 3 = .ok (.invokestatic 50, 3) := by decide +kernel
theorem dX6_cabal_6 : decode cX6_cabal 6 = .ok (.ifCond .ne 5, 3) := by decide +kernel
theorem dX6_cabal_9 : decode cX6_cabal 9 = .ok (.iconst (-1), 1) := by decide +kernel
theorem dX6_cabal_10 : decode cX6_cabal 10 = .ok (.ireturn, 1) := by decide +kernel
theorem dX6_cabal_11 : decode cX6_cabal 11 = .ok (.bipush (-4), 2) := by decide +kernel
theorem dX6_cabal_13 : decode cX6_cabal 13 = .ok (.istore_n 2, 1) := by decide +kernel
theorem dX6_cabal_14 : decode cX6_cabal 14 = .ok (.iconst 0, 1) := by decide +kernel
theorem dX6_cabal_15 : decode cX6_cabal 15 = .ok (.istore_n 3, 1) := by decide +kernel
theorem dX6_cabal_16 : decode cX6_cabal 16 = .ok (.iload_n 3, 1) := by decide +kernel
theorem dX6_cabal_17 : decode cX6_cabal 17 = .ok (.aload_n 0, 1) := by decide +kernel
theorem dX6_cabal_18 : decode cX6_cabal 18 = .ok (.invokevirtual 104, 3) := by decide +kernel
theorem dX6_cabal_21 : decode cX6_cabal 21 = .ok (.if_icmp .gt 36, 3) := by decide +kernel
theorem dX6_cabal_24 : decode cX6_cabal 24 = .ok (.iload_n 2, 1) := by decide +kernel
theorem dX6_cabal_25 : decode cX6_cabal 25 = .ok (.bipush (-4), 2) := by decide +kernel
theorem dX6_cabal_27 : decode cX6_cabal 27 = .ok (.if_icmp .eq 14, 3) := by decide +kernel
theorem dX6_cabal_30 : decode cX6_cabal 30 = .ok (.iload_n 3, 1) := by decide +kernel
theorem dX6_cabal_31 : decode cX6_cabal 31 = .ok (.invokestatic 136, 3) := by decide +kernel
theorem dX6_cabal_34 : decode cX6_cabal 34 = .ok (.iload_n 2, 1) := by decide +kernel
theorem dX6_cabal_35 : decode cX6_cabal 35 = .ok (.invokestatic 136, 3) := by decide +kernel
theorem dX6_cabal_38 : decode cX6_cabal 38 = .ok (.if_icmp .ge 13, 3) := by decide +kernel
theorem dX6_cabal_41 : decode cX6_cabal 41 = .ok (.aload_n 0, 1) := by decide +kernel
theorem dX6_cabal_42 : decode cX6_cabal 42 = .ok (.iload_n 3, 1) := by decide +kernel
theorem dX6_cabal_43 : decode cX6_cabal 43 = .ok (.invokevirtual 133, 3) := by decide +kernel
theorem dX6_cabal_46 : decode cX6_cabal 46 = .ok (.ifCond .eq 5, 3) := by decide +kernel
theorem dX6_cabal_49 : decode cX6_cabal 49 = .ok (.iload_n 3, 1) := by decide +kernel
theorem dX6_cabal_50 : decode cX6_cabal 50 = .ok (.istore_n 2, 1) := by decide +kernel
theorem dX6_cabal_51 : decode cX6_cabal 51 = .ok (.iinc 3 1, 3) := by decide +kernel
theorem dX6_cabal_54 : decode cX6_cabal 54 = .ok (.goto (-38), 3) := by decide +kernel
theorem dX6_cabal_57 : decode cX6_cabal 57 = .ok (.iload_n 1, 1) := by decide +kernel
theorem dX6_cabal_58 : decode cX6_cabal 58 = .ok (.iconst 1, 1) := by decide +kernel
theorem dX6_cabal_59 : decode cX6_cabal 59 = .ok (.if_icmp .eq 9, 3) := by decide +kernel
theorem dX6_cabal_62 : decode cX6_cabal 62 = .ok (.iload_n 2, 1) := by decide +kernel
theorem dX6_cabal_63 : decode cX6_cabal 63 = .ok (.bipush (-4), 2) := by decide +kernel
theorem dX6_cabal_65 : decode cX6_cabal 65 = .ok (.if_icmp .ne 7, 3) := by decide +kernel
theorem dX6_cabal_68 : decode cX6_cabal 68 = .ok (.iload_n 2, 1) := by decide +kernel
theorem dX6_cabal_69 : decode cX6_cabal 69 = .ok (.goto 7, 3) := by decide +kernel
theorem dX6_cabal_72 : decode cX6_cabal 72 = .ok (.iload_n 2, 1) := by decide +kernel
theorem dX6_cabal_73 : decode cX6_cabal 73 = .ok (.invokestatic 136, 3) := by decide +kernel
theorem dX6_cabal_76 : decode cX6_cabal 76 = .ok (.ireturn, 1) := by decide +kernel
theorem dX6_trades_0 : decode cX6_trades 0 = .ok (.bipush (-4), 2) := by decide +kernel
theorem dX6_trades_2 : decode cX6_trades 2 = .ok (.istore_n 1, 1) := by decide +kernel
theorem dX6_trades_3 : decode cX6_trades 3 = .ok (.iconst 0, 1) := by decide +kernel
theorem dX6_trades_4 : decode cX6_trades 4 = .ok (.istore_n 2, 1) := by decide +kernel
theorem dX6_trades_5 : decode cX6_trades 5 = .ok (.iload_n 2, 1) := by decide +kernel
theorem dX6_trades_6 : decode cX6_trades 6 = .ok (.aload_n 0, 1) := by decide +kernel
theorem dX6_trades_7 : decode cX6_trades 7 = .ok (.getfield 13, 3) := by decide +kernel
theorem dX6_trades_10 : decode cX6_trades 10 = .ok (.iconst 0, 1) := by decide +kernel
theorem dX6_trades_11 : decode cX6_trades 11 = .ok (.iaload, 1) := by decide +kernel
theorem dX6_trades_12 : decode cX6_trades 12 = .ok (.if_icmp .ge 81, 3) := by decide +kernel
theorem dX6_trades_15 : decode cX6_trades 15 = .ok (.iload_n 2, 1) := by decide +kernel
theorem dX6_trades_16 : decode cX6_trades 16 = .ok (.iconst 1, 1) := by decide +kernel
theorem dX6_trades_17 : decode cX6_trades 17 = .ok (.iadd, 1) := by decide +kernel
theorem dX6_trades_18 : decode cX6_trades 18 = .ok (.istore_n 3, 1) := by decide +kernel
theorem dX6_trades_19 : decode cX6_trades 19 = .ok (.iload_n 3, 1) := by decide +kernel
theorem dX6_trades_20 : decode cX6_trades 20 = .ok (.aload_n 0, 1) := by decide +kernel
theorem dX6_trades_21 : decode cX6_trades 21 = .ok (.getfield 13, 3) := by decide +kernel
theorem dX6_trades_24 : decode cX6_trades 24 = .ok (.iconst 0, 1) := by decide +kernel
theorem dX6_trades_25 : decode cX6_trades 25 = .ok (.iaload, 1) := by decide +kernel
theorem dX6_trades_26 : decode cX6_trades 26 = .ok (.if_icmp .ge 61, 3) := by decide +kernel
theorem dX6_trades_29 : decode cX6_trades 29 = .ok (.iload_n 1, 1) := by decide +kernel
theorem dX6_trades_30 : decode cX6_trades 30 = .ok (.bipush (-4), 2) := by decide +kernel
theorem dX6_trades_32 : decode cX6_trades 32 = .ok (.if_icmp .ne 49, 3) := by decide +kernel
theorem dX6_trades_35 : decode cX6_trades 35 = .ok (.aload_n 0, 1) := by decide +kernel
theorem dX6_trades_36 : decode cX6_trades 36 = .ok (.aload_n 0, 1) := by decide +kernel
theorem dX6_trades_37 : decode cX6_trades 37 = .ok (.invokevirtual 104, 3) := by decide +kernel
theorem dX6_trades_40 : decode cX6_trades 40 = .ok (.invokevirtual 133, 3) := by decide +kernel
theorem dX6_trades_43 : decode cX6_trades 43 = .ok (.ifCond .ne 38, 3) := by decide +kernel
theorem dX6_trades_46 : decode cX6_trades 46 = .ok (.aload_n 0, 1) := by decide +kernel
theorem dX6_trades_47 : decode cX6_trades 47 = .ok (.iload_n 2, 1) := by decide +kernel
theorem dX6_trades_48 : decode cX6_trades 48 = .ok (.iload_n 3, 1) := by decide +kernel
theorem dX6_trades_49 : decode cX6_trades 49 = .ok (.invokevirtual 114, 3) := by decide +kernel
theorem dX6_trades_52 : decode cX6_trades 52 = .ok (.aload_n 0, 1) := by decide +kernel
theorem dX6_trades_53 : decode cX6_trades 53 = .ok (.aload_n 0, 1) := by decide +kernel
theorem dX6_trades_54 : decode cX6_trades 54 = .ok (.invokevirtual 104, 3) := by decide +kernel
theorem dX6_trades_57 : decode cX6_trades 57 = .ok (.invokevirtual 133, 3) := by decide +kernel
theorem dX6_trades_60 : decode cX6_trades 60 = .ok (.ifCond .eq 12, 3) := by decide +kernel
theorem dX6_trades_63 : decode cX6_trades 63 = .ok (.bipush 10, 2) := by decide +kernel
theorem dX6_trades_65 : decode cX6_trades 65 = .ok (.iload_n 2, 1) := by decide +kernel
theorem dX6_trades_66 : decode cX6_trades 66 = .ok (.imul, 1) := by decide +kernel
theorem dX6_trades_67 : decode cX6_trades 67 = .ok (.iload_n 3, 1) := by decide +kernel
theorem dX6_trades_68 : decode cX6_trades 68 = .ok (.iadd, 1) := by decide +kernel
theorem dX6_trades_69 : decode cX6_trades 69 = .ok (.goto 5, 3) := by decide +kernel
theorem dX6_trades_72 : decode cX6_trades 72 = .ok (.bipush (-4), 2) := by decide +kernel
theorem dX6_trades_74 : decode cX6_trades 74 = .ok (.istore_n 1, 1) := by decide +kernel
theorem dX6_trades_75 : decode cX6_trades 75 = .ok (.aload_n 0, 1) := by decide +kernel
theorem dX6_trades_76 : decode cX6_trades 76 = .ok (.iload_n 2, 1) := by decide +kernel
theorem dX6_trades_77 : decode cX6_trades 77 = .ok (.iload_n 3, 1) := by decide +kernel
theorem dX6_trades_78 : decode cX6_trades 78 = .ok (.invokevirtual 114, 3) := by decide +kernel
theorem dX6_trades_81 : decode cX6_trades 81 = .ok (.iinc 3 1, 3) := by decide +kernel
theorem dX6_trades_84 : decode cX6_trades 84 = .ok (.goto (-65), 3) := by decide +kernel
theorem dX6_trades_87 : decode cX6_trades 87 = .ok (.iinc 2 1, 3) := by decide +kernel
theorem dX6_trades_90 : decode cX6_trades 90 = .ok (.goto (-85), 3) := by decide +kernel
theorem dX6_trades_93 : decode cX6_trades 93 = .ok (.iload_n 1, 1) := by decide +kernel
theorem dX6_trades_94 : decode cX6_trades 94 = .ok (.ireturn, 1) := by decide +kernel
theorem dX6_orders_0 : decode cX6_orders 0 = .ok (.iconst 1, 1) := by decide +kernel
theorem dX6_orders_1 : decode cX6_orders 1 = .ok (.istore_n 1, 1) := by decide +kernel
theorem dX6_orders_2 : decode cX6_orders 2 = .ok (.iconst 2, 1) := by decide +kernel
theorem dX6_orders_3 : decode cX6_orders 3 = .ok (.istore_n 2, 1) := by decide +kernel
theorem dX6_orders_4 : decode cX6_orders 4 = .ok (.iload_n 2, 1) := by decide +kernel
theorem dX6_orders_5 : decode cX6_orders 5 = .ok (.iload_n 0, 1) := by decide +kernel
theorem dX6_orders_6 : decode cX6_orders 6 = .ok (.if_icmp .gt 13, 3) := by decide +kernel
theorem dX6_orders_9 : decode cX6_orders 9 = .ok (.iload_n 1, 1) := by decide +kernel
theorem dX6_orders_10 : decode cX6_orders 10 = .ok (.iload_n 2, 1) := by decide +kernel
theorem dX6_orders_11 : decode cX6_orders 11 = .ok (.imul, 1) := by decide +kernel
theorem dX6_orders_12 : decode cX6_orders 12 = .ok (.istore_n 1, 1) := by decide +kernel
theorem dX6_orders_13 : decode cX6_orders 13 = .ok (.iinc 2 1, 3) := by decide +kernel
theorem dX6_orders_16 : decode cX6_orders 16 = .ok (.goto (-12), 3) := by decide +kernel
theorem dX6_orders_19 : decode cX6_orders 19 = .ok (.iload_n 1, 1) := by decide +kernel
theorem dX6_orders_20 : decode cX6_orders 20 = .ok (.ireturn, 1) := by decide +kernel
theorem dX6_partOf_0 : decode cX6_partOf 0 = .ok (.iload_n 0, 1) := by decide +kernel
theorem dX6_partOf_1 : decode cX6_partOf 1 = .ok (.istore_n 3, 1) := by decide +kernel
theorem dX6_partOf_2 : decode cX6_partOf 2 = .ok (.iload_n 1, 1) := by decide +kernel
theorem dX6_partOf_3 : decode cX6_partOf 3 = .ok (.istore 4, 2) := by decide +kernel
theorem dX6_partOf_5 : decode cX6_partOf 5 = .ok (.iload 4, 2) := by decide +kernel
theorem dX6_partOf_7 : decode cX6_partOf 7 = .ok (.ifCond .le 19, 3) := by decide +kernel
theorem dX6_partOf_10 : decode cX6_partOf 10 = .ok (.iload_n 3, 1) := by decide +kernel
theorem dX6_partOf_11 : decode cX6_partOf 11 = .ok (.iload 4, 2) := by decide +kernel
theorem dX6_partOf_13 : decode cX6_partOf 13 = .ok (.irem, 1) := by decide +kernel
theorem dX6_partOf_14 : decode cX6_partOf 14 = .ok (.istore 5, 2) := by decide +kernel
theorem dX6_partOf_16 : decode cX6_partOf 16 = .ok (.iload 4, 2) := by decide +kernel
theorem dX6_partOf_18 : decode cX6_partOf 18 = .ok (.istore_n 3, 1) := by decide +kernel
theorem dX6_partOf_19 : decode cX6_partOf 19 = .ok (.iload 5, 2) := by decide +kernel
theorem dX6_partOf_21 : decode cX6_partOf 21 = .ok (.istore 4, 2) := by decide +kernel
theorem dX6_partOf_23 : decode cX6_partOf 23 = .ok (.goto (-18), 3) := by decide +kernel
theorem dX6_partOf_26 : decode cX6_partOf 26 = .ok (.iload_n 2, 1) := by decide +kernel
theorem dX6_partOf_27 : decode cX6_partOf 27 = .ok (.ifCond .ne 9, 3) := by decide +kernel
theorem dX6_partOf_30 : decode cX6_partOf 30 = .ok (.iload_n 0, 1) := by decide +kernel
theorem dX6_partOf_31 : decode cX6_partOf 31 = .ok (.iload_n 3, 1) := by decide +kernel
theorem dX6_partOf_32 : decode cX6_partOf 32 = .ok (.idiv, 1) := by decide +kernel
theorem dX6_partOf_33 : decode cX6_partOf 33 = .ok (.goto 6, 3) := by decide +kernel
theorem dX6_partOf_36 : decode cX6_partOf 36 = .ok (.iload_n 1, 1) := by decide +kernel
theorem dX6_partOf_37 : decode cX6_partOf 37 = .ok (.iload_n 3, 1) := by decide +kernel
theorem dX6_partOf_38 : decode cX6_partOf 38 = .ok (.idiv, 1) := by decide +kernel
theorem dX6_partOf_39 : decode cX6_partOf 39 = .ok (.ireturn, 1) := by decide +kernel
theorem dX6_power_0 : decode cX6_power 0 = .ok (.aload_n 0, 1) := by decide +kernel
theorem dX6_power_1 : decode cX6_power 1 = .ok (.iload_n 1, 1) := by decide +kernel
theorem dX6_power_2 : decode cX6_power 2 = .ok (.invokevirtual 89, 3) := by decide +kernel
theorem dX6_power_5 : decode cX6_power 5 = .ok (.ifCond .eq 12, 3) := by decide +kernel
theorem dX6_power_8 : decode cX6_power 8 = .ok (.iload_n 2, 1) := by decide +kernel
theorem dX6_power_9 : decode cX6_power 9 = .ok (.iconst 0, 1) := by decide +kernel
theorem dX6_power_10 : decode cX6_power 10 = .ok (.iconst 1, 1) := by decide +kernel
theorem dX6_power_11 : decode cX6_power 11 = .ok (.invokestatic 50, 3) := by decide +kernel
theorem dX6_power_14 : decode cX6_power 14 = .ok (.ifCond .ne 5, 3) := by decide +kernel
theorem dX6_power_17 : decode cX6_power 17 = .ok (.iconst (-1), 1) := by decide +kernel
theorem dX6_power_18 : decode cX6_power 18 = .ok (.ireturn, 1) := by decide +kernel
theorem dX6_power_19 : decode cX6_power 19 = .ok (.iconst 0, 1) := by decide +kernel
theorem dX6_power_20 : decode cX6_power 20 = .ok (.istore_n 3, 1) := by decide +kernel
theorem dX6_power_21 : decode cX6_power 21 = .ok (.iconst 0, 1) := by decide +kernel
theorem dX6_power_22 : decode cX6_power 22 = .ok (.istore 4, 2) := by decide +kernel
theorem dX6_power_24 : decode cX6_power 24 = .ok (.iload 4, 2) := by decide +kernel
theorem dX6_power_26 : decode cX6_power 26 = .ok (.aload_n 0, 1) := by decide +kernel
theorem dX6_power_27 : decode cX6_power 27 = .ok (.invokevirtual 104, 3) := by decide +kernel
theorem dX6_power_30 : decode cX6_power 30 = .ok (.if_icmp .gt 69, 3) := by decide +kernel
theorem dX6_power_33 : decode cX6_power 33 = .ok (.iload 4, 2) := by decide +kernel
theorem dX6_power_35 : decode cX6_power 35 = .ok (.iload_n 1, 1) := by decide +kernel
theorem dX6_power_36 : decode cX6_power 36 = .ok (.ishr, 1) := by decide +kernel
theorem dX6_power_37 : decode cX6_power 37 = .ok (.iconst 1, 1) := by decide +kernel
theorem dX6_power_38 : decode cX6_power 38 = .ok (.iand, 1) := by decide +kernel
theorem dX6_power_39 : decode cX6_power 39 = .ok (.ifCond .ne 54, 3) := by decide +kernel
theorem dX6_power_42 : decode cX6_power 42 = .ok (.aload_n 0, 1) := by decide +kernel
theorem dX6_power_43 : decode cX6_power 43 = .ok (.iload 4, 2) := by decide +kernel
theorem dX6_power_45 : decode cX6_power 45 = .ok (.invokevirtual 133, 3) := by decide +kernel
theorem dX6_power_48 : decode cX6_power 48 = .ok (.ifCond .ne 45, 3) := by decide +kernel
theorem dX6_power_51 : decode cX6_power 51 = .ok (.aload_n 0, 1) := by decide +kernel
theorem dX6_power_52 : decode cX6_power 52 = .ok (.iload 4, 2) := by decide +kernel
theorem dX6_power_54 : decode cX6_power 54 = .ok (.iconst 1, 1) := by decide +kernel
theorem dX6_power_55 : decode cX6_power 55 = .ok (.iload_n 1, 1) := by decide +kernel
theorem dX6_power_56 : decode cX6_power 56 = .ok (.ishl, 1) := by decide +kernel
theorem dX6_power_57 : decode cX6_power 57 = .ok (.ior, 1) := by decide +kernel
theorem dX6_power_58 : decode cX6_power 58 = .ok (.invokevirtual 133, 3) := by decide +kernel
theorem dX6_power_61 : decode cX6_power 61 = .ok (.ifCond .eq 32, 3) := by decide +kernel
theorem dX6_power_64 : decode cX6_power 64 = .ok (.iload_n 3, 1) := by decide +kernel
theorem dX6_power_65 : decode cX6_power 65 = .ok (.iload 4, 2) := by decide +kernel
theorem dX6_power_67 : decode cX6_power 67 = .ok (.invokestatic 136, 3) := by decide +kernel
theorem dX6_power_70 : decode cX6_power 70 = .ok (.invokestatic 139, 3) := by decide +kernel
theorem dX6_power_73 : decode cX6_power 73 = .ok (.aload_n 0, 1) := by decide +kernel
theorem dX6_power_74 : decode cX6_power 74 = .ok (.getfield 13, 3) := by decide +kernel
theorem dX6_power_77 : decode cX6_power 77 = .ok (.iconst 0, 1) := by decide +kernel
theorem dX6_power_78 : decode cX6_power 78 = .ok (.iaload, 1) := by decide +kernel
theorem dX6_power_79 : decode cX6_power 79 = .ok (.iconst 1, 1) := by decide +kernel
theorem dX6_power_80 : decode cX6_power 80 = .ok (.isub, 1) := by decide +kernel
theorem dX6_power_81 : decode cX6_power 81 = .ok (.iload 4, 2) := by decide +kernel
theorem dX6_power_83 : decode cX6_power 83 = .ok (.invokestatic 136, 3) := by decide +kernel
theorem dX6_power_86 : decode cX6_power 86 = .ok (.isub, 1) := by decide +kernel
theorem dX6_power_87 : decode cX6_power 87 = .ok (.invokestatic 139, 3) := by decide +kernel
theorem dX6_power_90 : decode cX6_power 90 = .ok (.imul, 1) := by decide +kernel
theorem dX6_power_91 : decode cX6_power 91 = .ok (.iadd, 1) := by decide +kernel
theorem dX6_power_92 : decode cX6_power 92 = .ok (.istore_n 3, 1) := by decide +kernel
theorem dX6_power_93 : decode cX6_power 93 = .ok (.iinc 4 1, 3) := by decide +kernel
theorem dX6_power_96 : decode cX6_power 96 = .ok (.goto (-72), 3) := by decide +kernel
theorem dX6_power_99 : decode cX6_power 99 = .ok (.iload_n 3, 1) := by decide +kernel
theorem dX6_power_100 : decode cX6_power 100 = .ok (.aload_n 0, 1) := by decide +kernel
theorem dX6_power_101 : decode cX6_power 101 = .ok (.getfield 13, 3) := by decide +kernel
theorem dX6_power_104 : decode cX6_power 104 = .ok (.iconst 0, 1) := by decide +kernel
theorem dX6_power_105 : decode cX6_power 105 = .ok (.iaload, 1) := by decide +kernel
theorem dX6_power_106 : decode cX6_power 106 = .ok (.invokestatic 139, 3) := by decide +kernel
theorem dX6_power_109 : decode cX6_power 109 = .ok (.iload_n 2, 1) := by decide +kernel
theorem dX6_power_110 : decode cX6_power 110 = .ok (.invokestatic 142, 3) := by decide +kernel
theorem dX6_power_113 : decode cX6_power 113 = .ok (.ireturn, 1) := by decide +kernel
theorem dX6_seen_0 : decode cX6_seen 0 = .ok (.aload_n 0, 1) := by decide +kernel
theorem dX6_seen_1 : decode cX6_seen 1 = .ok (.iload_n 1, 1) := by decide +kernel
theorem dX6_seen_2 : decode cX6_seen 2 = .ok (.invokevirtual 89, 3) := by decide +kernel
theorem dX6_seen_5 : decode cX6_seen 5 = .ok (.ifCond .eq 13, 3) := by decide +kernel
theorem dX6_seen_8 : decode cX6_seen 8 = .ok (.iload_n 2, 1) := by decide +kernel
theorem dX6_seen_9 : decode cX6_seen 9 = .ok (.iconst 0, 1) := by decide +kernel
theorem dX6_seen_10 : decode cX6_seen 10 = .ok (.bipush 18, 2) := by decide +kernel
theorem dX6_seen_12 : decode cX6_seen 12 = .ok (.invokestatic 50, 3) := by decide +kernel
theorem dX6_seen_15 : decode cX6_seen 15 = .ok (.ifCond .ne 5, 3) := by decide +kernel
theorem dX6_seen_18 : decode cX6_seen 18 = .ok (.iconst (-1), 1) := by decide +kernel
theorem dX6_seen_19 : decode cX6_seen 19 = .ok (.ireturn, 1) := by decide +kernel
theorem dX6_seen_20 : decode cX6_seen 20 = .ok (.aload_n 0, 1) := by decide +kernel
theorem dX6_seen_21 : decode cX6_seen 21 = .ok (.getfield 86, 3) := by decide +kernel
theorem dX6_seen_24 : decode cX6_seen 24 = .ok (.bipush 6, 2) := by decide +kernel
theorem dX6_seen_26 : decode cX6_seen 26 = .ok (.if_icmp .ne 6, 3) := by decide +kernel
theorem dX6_seen_29 : decode cX6_seen 29 = .ok (.bipush (-3), 2) := by decide +kernel
theorem dX6_seen_31 : decode cX6_seen 31 = .ok (.ireturn, 1) := by decide +kernel
theorem dX6_seen_32 : decode cX6_seen 32 = .ok (.aload_n 0, 1) := by decide +kernel
theorem dX6_seen_33 : decode cX6_seen 33 = .ok (.getfield 31, 3) := by decide +kernel
theorem dX6_seen_36 : decode cX6_seen 36 = .ok (.aload_n 0, 1) := by decide +kernel
theorem dX6_seen_37 : decode cX6_seen 37 = .ok (.getfield 86, 3) := by decide +kernel
theorem dX6_seen_40 : decode cX6_seen 40 = .ok (.bipush 20, 2) := by decide +kernel
theorem dX6_seen_42 : decode cX6_seen 42 = .ok (.iload_n 1, 1) := by decide +kernel
theorem dX6_seen_43 : decode cX6_seen 43 = .ok (.imul, 1) := by decide +kernel
theorem dX6_seen_44 : decode cX6_seen 44 = .ok (.iload_n 2, 1) := by decide +kernel
theorem dX6_seen_45 : decode cX6_seen 45 = .ok (.iadd, 1) := by decide +kernel
theorem dX6_seen_46 : decode cX6_seen 46 = .ok (.iastore, 1) := by decide +kernel
theorem dX6_seen_47 : decode cX6_seen 47 = .ok (.aload_n 0, 1) := by decide +kernel
theorem dX6_seen_48 : decode cX6_seen 48 = .ok (.dup, 1) := by decide +kernel
theorem dX6_seen_49 : decode cX6_seen 49 = .ok (.getfield 86, 3) := by decide +kernel
theorem dX6_seen_52 : decode cX6_seen 52 = .ok (.iconst 1, 1) := by decide +kernel
theorem dX6_seen_53 : decode cX6_seen 53 = .ok (.iadd, 1) := by decide +kernel
theorem dX6_seen_54 : decode cX6_seen 54 = .ok (.putfield 86, 3) := by decide +kernel
theorem dX6_seen_57 : decode cX6_seen 57 = .ok (.aload_n 0, 1) := by decide +kernel
theorem dX6_seen_58 : decode cX6_seen 58 = .ok (.getfield 86, 3) := by decide +kernel
theorem dX6_seen_61 : decode cX6_seen 61 = .ok (.ireturn, 1) := by decide +kernel
theorem dX6_forget_0 : decode cX6_forget 0 = .ok (.aload_n 0, 1) := by decide +kernel
theorem dX6_forget_1 : decode cX6_forget 1 = .ok (.getfield 86, 3) := by decide +kernel
theorem dX6_forget_4 : decode cX6_forget 4 = .ok (.istore_n 1, 1) := by decide +kernel
theorem dX6_forget_5 : decode cX6_forget 5 = .ok (.aload_n 0, 1) := by decide +kernel
theorem dX6_forget_6 : decode cX6_forget 6 = .ok (.iconst 0, 1) := by decide +kernel
theorem dX6_forget_7 : decode cX6_forget 7 = .ok (.putfield 86, 3) := by decide +kernel
theorem dX6_forget_10 : decode cX6_forget 10 = .ok (.iload_n 1, 1) := by decide +kernel
theorem dX6_forget_11 : decode cX6_forget 11 = .ok (.ireturn, 1) := by decide +kernel
theorem dX6_may_0 : decode cX6_may 0 = .ok (.iload_n 1, 1) := by decide +kernel
theorem dX6_may_1 : decode cX6_may 1 = .ok (.iconst 0, 1) := by decide +kernel
theorem dX6_may_2 : decode cX6_may 2 = .ok (.iconst 1, 1) := by decide +kernel
theorem dX6_may_3 : decode cX6_may 3 = .ok (.invokestatic 50, 3) := by decide +kernel
theorem dX6_may_6 : decode cX6_may 6 = .ok (.ifCond .ne 5, 3) := by decide +kernel
theorem dX6_may_9 : decode cX6_may 9 = .ok (.iconst (-1), 1) := by decide +kernel
theorem dX6_may_10 : decode cX6_may 10 = .ok (.ireturn, 1) := by decide +kernel
theorem dX6_may_11 : decode cX6_may 11 = .ok (.aload_n 0, 1) := by decide +kernel
theorem dX6_may_12 : decode cX6_may 12 = .ok (.invokevirtual 127, 3) := by decide +kernel
theorem dX6_may_15 : decode cX6_may 15 = .ok (.iconst 0, 1) := by decide +kernel
theorem dX6_may_16 : decode cX6_may 16 = .ok (.istore_n 2, 1) := by decide +kernel
theorem dX6_may_17 : decode cX6_may 17 = .ok (.iconst 0, 1) := by decide +kernel
theorem dX6_may_18 : decode cX6_may 18 = .ok (.istore_n 3, 1) := by decide +kernel
theorem dX6_may_19 : decode cX6_may 19 = .ok (.iload_n 3, 1) := by decide +kernel
theorem dX6_may_20 : decode cX6_may 20 = .ok (.bipush 10, 2) := by decide +kernel
theorem dX6_may_22 : decode cX6_may 22 = .ok (.if_icmp .ge 133, 3) := by decide +kernel
theorem dX6_may_25 : decode cX6_may 25 = .ok (.aload_n 0, 1) := by decide +kernel
theorem dX6_may_26 : decode cX6_may 26 = .ok (.getfield 22, 3) := by decide +kernel
theorem dX6_may_29 : decode cX6_may 29 = .ok (.iload_n 1, 1) := by decide +kernel
theorem dX6_may_30 : decode cX6_may 30 = .ok (.ifCond .ne 8, 3) := by decide +kernel
theorem dX6_may_33 : decode cX6_may 33 = .ok (.bipush 30, 2) := by decide +kernel
theorem dX6_may_35 : decode cX6_may 35 = .ok (.goto 5, 3) := by decide +kernel
theorem dX6_may_38 : decode cX6_may 38 = .ok (.bipush 29, 2) := by decide +kernel
theorem dX6_may_40 : decode cX6_may 40 = .ok (.iload_n 3, 1) := by decide +kernel
theorem dX6_may_41 : decode cX6_may 41 = .ok (.iastore, 1) := by decide +kernel
theorem dX6_may_42 : decode cX6_may 42 = .ok (.aload_n 0, 1) := by decide +kernel
theorem dX6_may_43 : decode cX6_may 43 = .ok (.aload_n 0, 1) := by decide +kernel
theorem dX6_may_44 : decode cX6_may 44 = .ok (.invokevirtual 104, 3) := by decide +kernel
theorem dX6_may_47 : decode cX6_may 47 = .ok (.invokevirtual 107, 3) := by decide +kernel
theorem dX6_may_50 : decode cX6_may 50 = .ok (.pop, 1) := by decide +kernel
theorem dX6_may_51 : decode cX6_may 51 = .ok (.iconst 1, 1) := by decide +kernel
theorem dX6_may_52 : decode cX6_may 52 = .ok (.istore 4, 2) := by decide +kernel
theorem dX6_may_54 : decode cX6_may 54 = .ok (.iconst 0, 1) := by decide +kernel
theorem dX6_may_55 : decode cX6_may 55 = .ok (.istore 5, 2) := by decide +kernel
theorem dX6_may_57 : decode cX6_may 57 = .ok (.iload 5, 2) := by decide +kernel
theorem dX6_may_59 : decode cX6_may 59 = .ok (.aload_n 0, 1) := by decide +kernel
theorem dX6_may_60 : decode cX6_may 60 = .ok (.getfield 86, 3) := by decide +kernel
theorem dX6_may_63 : decode cX6_may 63 = .ok (.if_icmp .ge 67, 3) := by decide +kernel
theorem dX6_may_66 : decode cX6_may 66 = .ok (.aload_n 0, 1) := by decide +kernel
theorem dX6_may_67 : decode cX6_may 67 = .ok (.getfield 31, 3) := by decide +kernel
theorem dX6_may_70 : decode cX6_may 70 = .ok (.iload 5, 2) := by decide +kernel
theorem dX6_may_72 : decode cX6_may 72 = .ok (.iaload, 1) := by decide +kernel
theorem dX6_may_73 : decode cX6_may 73 = .ok (.bipush 20, 2) := by decide +kernel
theorem dX6_may_75 : decode cX6_may 75 = .ok (.idiv, 1) := by decide +kernel
theorem dX6_may_76 : decode cX6_may 76 = .ok (.istore 6, 2) := by decide +kernel
theorem dX6_may_78 : decode cX6_may 78 = .ok (.iload 4, 2) := by decide +kernel
theorem dX6_may_80 : decode cX6_may 80 = .ok (.ifCond .eq 41, 3) := by decide +kernel
theorem dX6_may_83 : decode cX6_may 83 = .ok (.aload_n 0, 1) := by decide +kernel
theorem dX6_may_84 : decode cX6_may 84 = .ok (.getfield 22, 3) := by decide +kernel
theorem dX6_may_87 : decode cX6_may 87 = .ok (.bipush 21, 2) := by decide +kernel
theorem dX6_may_89 : decode cX6_may 89 = .ok (.iload 6, 2) := by decide +kernel
theorem dX6_may_91 : decode cX6_may 91 = .ok (.iadd, 1) := by decide +kernel
theorem dX6_may_92 : decode cX6_may 92 = .ok (.iaload, 1) := by decide +kernel
theorem dX6_may_93 : decode cX6_may 93 = .ok (.aload_n 0, 1) := by decide +kernel
theorem dX6_may_94 : decode cX6_may 94 = .ok (.getfield 34, 3) := by decide +kernel
theorem dX6_may_97 : decode cX6_may 97 = .ok (.bipush 21, 2) := by decide +kernel
theorem dX6_may_99 : decode cX6_may 99 = .ok (.iload 6, 2) := by decide +kernel
theorem dX6_may_101 : decode cX6_may 101 = .ok (.iadd, 1) := by decide +kernel
theorem dX6_may_102 : decode cX6_may 102 = .ok (.iaload, 1) := by decide +kernel
theorem dX6_may_103 : decode cX6_may 103 = .ok (.isub, 1) := by decide +kernel
theorem dX6_may_104 : decode cX6_may 104 = .ok (.aload_n 0, 1) := by decide +kernel
theorem dX6_may_105 : decode cX6_may 105 = .ok (.getfield 31, 3) := by decide +kernel
theorem dX6_may_108 : decode cX6_may 108 = .ok (.iload 5, 2) := by decide +kernel
theorem dX6_may_110 : decode cX6_may 110 = .ok (.iaload, 1) := by decide +kernel
theorem dX6_may_111 : decode cX6_may 111 = .ok (.bipush 20, 2) := by decide +kernel
theorem dX6_may_113 : decode cX6_may 113 = .ok (.irem, 1) := by decide +kernel
theorem dX6_may_114 : decode cX6_may 114 = .ok (.if_icmp .ne 7, 3) := by decide +kernel
theorem dX6_may_117 : decode cX6_may 117 = .ok (.iconst 1, 1) := by decide +kernel
theorem dX6_may_118 : decode cX6_may 118 = .ok (.goto 4, 3) := by decide +kernel
theorem dX6_may_121 : decode cX6_may 121 = .ok (.iconst 0, 1) := by decide +kernel
theorem dX6_may_122 : decode cX6_may 122 = .ok (.istore 4, 2) := by decide +kernel
theorem dX6_may_124 : decode cX6_may 124 = .ok (.iinc 5 1, 3) := by decide +kernel
theorem dX6_may_127 : decode cX6_may 127 = .ok (.goto (-70), 3) := by decide +kernel
theorem dX6_may_130 : decode cX6_may 130 = .ok (.iload_n 2, 1) := by decide +kernel
theorem dX6_may_131 : decode cX6_may 131 = .ok (.iload 4, 2) := by decide +kernel
theorem dX6_may_133 : decode cX6_may 133 = .ok (.ifCond .eq 9, 3) := by decide +kernel
theorem dX6_may_136 : decode cX6_may 136 = .ok (.iconst 1, 1) := by decide +kernel
theorem dX6_may_137 : decode cX6_may 137 = .ok (.iload_n 3, 1) := by decide +kernel
theorem dX6_may_138 : decode cX6_may 138 = .ok (.ishl, 1) := by decide +kernel
theorem dX6_may_139 : decode cX6_may 139 = .ok (.goto 4, 3) := by decide +kernel
theorem dX6_may_142 : decode cX6_may 142 = .ok (.iconst 0, 1) := by decide +kernel
theorem dX6_may_143 : decode cX6_may 143 = .ok (.ior, 1) := by decide +kernel
theorem dX6_may_144 : decode cX6_may 144 = .ok (.istore_n 2, 1) := by decide +kernel
theorem dX6_may_145 : decode cX6_may 145 = .ok (.aload_n 0, 1) := by decide +kernel
theorem dX6_may_146 : decode cX6_may 146 = .ok (.invokevirtual 130, 3) := by decide +kernel
theorem dX6_may_149 : decode cX6_may 149 = .ok (.iinc 3 1, 3) := by decide +kernel
theorem dX6_may_152 : decode cX6_may 152 = .ok (.goto (-133), 3) := by decide +kernel
theorem dX6_may_155 : decode cX6_may 155 = .ok (.iload_n 2, 1) := by decide +kernel
theorem dX6_may_156 : decode cX6_may 156 = .ok (.ireturn, 1) := by decide +kernel
theorem dX6_likely_0 : decode cX6_likely 0 = .ok (.iload_n 1, 1) := by decide +kernel
theorem dX6_likely_1 : decode cX6_likely 1 = .ok (.iconst 0, 1) := by decide +kernel
theorem dX6_likely_2 : decode cX6_likely 2 = .ok (.bipush 10, 2) := by decide +kernel
theorem dX6_likely_4 : decode cX6_likely 4 = .ok (.invokestatic 50, 3) := by decide +kernel
theorem dX6_likely_7 : decode cX6_likely 7 = .ok (.ifCond .eq 12, 3) := by decide +kernel
theorem dX6_likely_10 : decode cX6_likely 10 = .ok (.iload_n 2, 1) := by decide +kernel
theorem dX6_likely_11 : decode cX6_likely 11 = .ok (.iconst 0, 1) := by decide +kernel
theorem dX6_likely_12 : decode cX6_likely 12 = .ok (.iconst 1, 1) := by decide +kernel
theorem dX6_likely_13 : decode cX6_likely 13 = .ok (.invokestatic 50, 3) := by decide +kernel
theorem dX6_likely_16 : decode cX6_likely 16 = .ok (.ifCond .ne 5, 3) := by decide +kernel
theorem dX6_likely_19 : decode cX6_likely 19 = .ok (.iconst (-1), 1) := by decide +kernel
theorem dX6_likely_20 : decode cX6_likely 20 = .ok (.ireturn, 1) := by decide +kernel
theorem dX6_likely_21 : decode cX6_likely 21 = .ok (.iconst 0, 1) := by decide +kernel
theorem dX6_likely_22 : decode cX6_likely 22 = .ok (.istore_n 3, 1) := by decide +kernel
theorem dX6_likely_23 : decode cX6_likely 23 = .ok (.iconst 1, 1) := by decide +kernel
theorem dX6_likely_24 : decode cX6_likely 24 = .ok (.istore 4, 2) := by decide +kernel
theorem dX6_likely_26 : decode cX6_likely 26 = .ok (.iconst 0, 1) := by decide +kernel
theorem dX6_likely_27 : decode cX6_likely 27 = .ok (.istore 5, 2) := by decide +kernel
theorem dX6_likely_29 : decode cX6_likely 29 = .ok (.iload 5, 2) := by decide +kernel
theorem dX6_likely_31 : decode cX6_likely 31 = .ok (.aload_n 0, 1) := by decide +kernel
theorem dX6_likely_32 : decode cX6_likely 32 = .ok (.getfield 13, 3) := by decide +kernel
theorem dX6_likely_35 : decode cX6_likely 35 = .ok (.iconst 0, 1) := by decide +kernel
theorem dX6_likely_36 : decode cX6_likely 36 = .ok (.iaload, 1) := by decide +kernel
theorem dX6_likely_37 : decode cX6_likely 37 = .ok (.if_icmp .ge 16, 3) := by decide +kernel
theorem dX6_likely_40 : decode cX6_likely 40 = .ok (.iload 4, 2) := by decide +kernel
theorem dX6_likely_42 : decode cX6_likely 42 = .ok (.bipush 10, 2) := by decide +kernel
theorem dX6_likely_44 : decode cX6_likely 44 = .ok (.imul, 1) := by decide +kernel
theorem dX6_likely_45 : decode cX6_likely 45 = .ok (.istore 4, 2) := by decide +kernel
theorem dX6_likely_47 : decode cX6_likely 47 = .ok (.iinc 5 1, 3) := by decide +kernel
theorem dX6_likely_50 : decode cX6_likely 50 = .ok (.goto (-21), 3) := by decide +kernel
theorem dX6_likely_53 : decode cX6_likely 53 = .ok (.iconst 0, 1) := by decide +kernel
theorem dX6_likely_54 : decode cX6_likely 54 = .ok (.istore 5, 2) := by decide +kernel
theorem dX6_likely_56 : decode cX6_likely 56 = .ok (.iload 5, 2) := by decide +kernel
theorem dX6_likely_58 : decode cX6_likely 58 = .ok (.aload_n 0, 1) := by decide +kernel
theorem dX6_likely_59 : decode cX6_likely 59 = .ok (.invokevirtual 104, 3) := by decide +kernel
theorem dX6_likely_62 : decode cX6_likely 62 = .ok (.if_icmp .gt 74, 3) := by decide +kernel
theorem dX6_likely_65 : decode cX6_likely 65 = .ok (.iconst 1, 1) := by decide +kernel
theorem dX6_likely_66 : decode cX6_likely 66 = .ok (.istore 6, 2) := by decide +kernel
theorem dX6_likely_68 : decode cX6_likely 68 = .ok (.iconst 0, 1) := by decide +kernel
theorem dX6_likely_69 : decode cX6_likely 69 = .ok (.istore 7, 2) := by decide +kernel
theorem dX6_likely_71 : decode cX6_likely 71 = .ok (.iload 7, 2) := by decide +kernel
theorem dX6_likely_73 : decode cX6_likely 73 = .ok (.aload_n 0, 1) := by decide +kernel
theorem dX6_likely_74 : decode cX6_likely 74 = .ok (.getfield 13, 3) := by decide +kernel
theorem dX6_likely_77 : decode cX6_likely 77 = .ok (.iconst 0, 1) := by decide +kernel
theorem dX6_likely_78 : decode cX6_likely 78 = .ok (.iaload, 1) := by decide +kernel
theorem dX6_likely_79 : decode cX6_likely 79 = .ok (.if_icmp .ge 33, 3) := by decide +kernel
theorem dX6_likely_82 : decode cX6_likely 82 = .ok (.iload 6, 2) := by decide +kernel
theorem dX6_likely_84 : decode cX6_likely 84 = .ok (.iload 5, 2) := by decide +kernel
theorem dX6_likely_86 : decode cX6_likely 86 = .ok (.iload 7, 2) := by decide +kernel
theorem dX6_likely_88 : decode cX6_likely 88 = .ok (.ishr, 1) := by decide +kernel
theorem dX6_likely_89 : decode cX6_likely 89 = .ok (.iconst 1, 1) := by decide +kernel
theorem dX6_likely_90 : decode cX6_likely 90 = .ok (.iand, 1) := by decide +kernel
theorem dX6_likely_91 : decode cX6_likely 91 = .ok (.iconst 1, 1) := by decide +kernel
theorem dX6_likely_92 : decode cX6_likely 92 = .ok (.if_icmp .ne 7, 3) := by decide +kernel
theorem dX6_likely_95 : decode cX6_likely 95 = .ok (.iload_n 1, 1) := by decide +kernel
theorem dX6_likely_96 : decode cX6_likely 96 = .ok (.goto 7, 3) := by decide +kernel
theorem dX6_likely_99 : decode cX6_likely 99 = .ok (.bipush 10, 2) := by decide +kernel
theorem dX6_likely_101 : decode cX6_likely 101 = .ok (.iload_n 1, 1) := by decide +kernel
theorem dX6_likely_102 : decode cX6_likely 102 = .ok (.isub, 1) := by decide +kernel
theorem dX6_likely_103 : decode cX6_likely 103 = .ok (.imul, 1) := by decide +kernel
theorem dX6_likely_104 : decode cX6_likely 104 = .ok (.istore 6, 2) := by decide +kernel
theorem dX6_likely_106 : decode cX6_likely 106 = .ok (.iinc 7 1, 3) := by decide +kernel
theorem dX6_likely_109 : decode cX6_likely 109 = .ok (.goto (-38), 3) := by decide +kernel
theorem dX6_likely_112 : decode cX6_likely 112 = .ok (.iload_n 3, 1) := by decide +kernel
theorem dX6_likely_113 : decode cX6_likely 113 = .ok (.aload_n 0, 1) := by decide +kernel
theorem dX6_likely_114 : decode cX6_likely 114 = .ok (.iload 5, 2) := by decide +kernel
theorem dX6_likely_116 : decode cX6_likely 116 = .ok (.invokevirtual 133, 3) := by decide +kernel
theorem dX6_likely_119 : decode cX6_likely 119 = .ok (.ifCond .eq 8, 3) := by decide +kernel
theorem dX6_likely_122 : decode cX6_likely 122 = .ok (.iload 6, 2) := by decide +kernel
theorem dX6_likely_124 : decode cX6_likely 124 = .ok (.goto 4, 3) := by decide +kernel
theorem dX6_likely_127 : decode cX6_likely 127 = .ok (.iconst 0, 1) := by decide +kernel
theorem dX6_likely_128 : decode cX6_likely 128 = .ok (.iadd, 1) := by decide +kernel
theorem dX6_likely_129 : decode cX6_likely 129 = .ok (.istore_n 3, 1) := by decide +kernel
theorem dX6_likely_130 : decode cX6_likely 130 = .ok (.iinc 5 1, 3) := by decide +kernel
theorem dX6_likely_133 : decode cX6_likely 133 = .ok (.goto (-77), 3) := by decide +kernel
theorem dX6_likely_136 : decode cX6_likely 136 = .ok (.iload_n 3, 1) := by decide +kernel
theorem dX6_likely_137 : decode cX6_likely 137 = .ok (.iload 4, 2) := by decide +kernel
theorem dX6_likely_139 : decode cX6_likely 139 = .ok (.iload_n 2, 1) := by decide +kernel
theorem dX6_likely_140 : decode cX6_likely 140 = .ok (.invokestatic 142, 3) := by decide +kernel
theorem dX6_likely_143 : decode cX6_likely 143 = .ok (.ireturn, 1) := by decide +kernel
theorem dX6_turn_0 : decode cX6_turn 0 = .ok (.iload_n 1, 1) := by decide +kernel
theorem dX6_turn_1 : decode cX6_turn 1 = .ok (.iconst 4, 1) := by decide +kernel
theorem dX6_turn_2 : decode cX6_turn 2 = .ok (.idiv, 1) := by decide +kernel
theorem dX6_turn_3 : decode cX6_turn 3 = .ok (.istore_n 2, 1) := by decide +kernel
theorem dX6_turn_4 : decode cX6_turn 4 = .ok (.iload_n 1, 1) := by decide +kernel
theorem dX6_turn_5 : decode cX6_turn 5 = .ok (.iconst 4, 1) := by decide +kernel
theorem dX6_turn_6 : decode cX6_turn 6 = .ok (.irem, 1) := by decide +kernel
theorem dX6_turn_7 : decode cX6_turn 7 = .ok (.tableswitch 98 0 2 #[25, 37, 62], 25) := by decide +kernel
theorem dX6_turn_32 : decode cX6_turn 32 = .ok (.aload_n 0, 1) := by decide +kernel
theorem dX6_turn_33 : decode cX6_turn 33 = .ok (.aload_n 0, 1) := by decide +kernel
theorem dX6_turn_34 : decode cX6_turn 34 = .ok (.invokevirtual 104, 3) := by decide +kernel
theorem dX6_turn_37 : decode cX6_turn 37 = .ok (.invokevirtual 107, 3) := by decide +kernel
theorem dX6_turn_40 : decode cX6_turn 40 = .ok (.pop, 1) := by decide +kernel
theorem dX6_turn_41 : decode cX6_turn 41 = .ok (.goto 68, 3) := by decide +kernel
theorem dX6_turn_44 : decode cX6_turn 44 = .ok (.iload_n 2, 1) := by decide +kernel
theorem dX6_turn_45 : decode cX6_turn 45 = .ok (.bipush 60, 2) := by decide +kernel
theorem dX6_turn_47 : decode cX6_turn 47 = .ok (.irem, 1) := by decide +kernel
theorem dX6_turn_48 : decode cX6_turn 48 = .ok (.aload_n 0, 1) := by decide +kernel
theorem dX6_turn_49 : decode cX6_turn 49 = .ok (.getfield 22, 3) := by decide +kernel
theorem dX6_turn_52 : decode cX6_turn 52 = .ok (.bipush 28, 2) := by decide +kernel
theorem dX6_turn_54 : decode cX6_turn 54 = .ok (.iaload, 1) := by decide +kernel
theorem dX6_turn_55 : decode cX6_turn 55 = .ok (.if_icmp .le 54, 3) := by decide +kernel
theorem dX6_turn_58 : decode cX6_turn 58 = .ok (.aload_n 0, 1) := by decide +kernel
theorem dX6_turn_59 : decode cX6_turn 59 = .ok (.iload_n 2, 1) := by decide +kernel
theorem dX6_turn_60 : decode cX6_turn 60 = .ok (.bipush 60, 2) := by decide +kernel
theorem dX6_turn_62 : decode cX6_turn 62 = .ok (.irem, 1) := by decide +kernel
theorem dX6_turn_63 : decode cX6_turn 63 = .ok (.invokevirtual 110, 3) := by decide +kernel
theorem dX6_turn_66 : decode cX6_turn 66 = .ok (.goto 43, 3) := by decide +kernel
theorem dX6_turn_69 : decode cX6_turn 69 = .ok (.aload_n 0, 1) := by decide +kernel
theorem dX6_turn_70 : decode cX6_turn 70 = .ok (.getfield 22, 3) := by decide +kernel
theorem dX6_turn_73 : decode cX6_turn 73 = .ok (.bipush 30, 2) := by decide +kernel
theorem dX6_turn_75 : decode cX6_turn 75 = .ok (.dup2, 1) := by decide +kernel
theorem dX6_turn_76 : decode cX6_turn 76 = .ok (.iaload, 1) := by decide +kernel
theorem dX6_turn_77 : decode cX6_turn 77 = .ok (.aload_n 0, 1) := by decide +kernel
theorem dX6_turn_78 : decode cX6_turn 78 = .ok (.getfield 22, 3) := by decide +kernel
theorem dX6_turn_81 : decode cX6_turn 81 = .ok (.bipush 30, 2) := by decide +kernel
theorem dX6_turn_83 : decode cX6_turn 83 = .ok (.iaload, 1) := by decide +kernel
theorem dX6_turn_84 : decode cX6_turn 84 = .ok (.bipush 9, 2) := by decide +kernel
theorem dX6_turn_86 : decode cX6_turn 86 = .ok (.if_icmp .ge 13, 3) := by decide +kernel
theorem dX6_turn_89 : decode cX6_turn 89 = .ok (.iload_n 2, 1) := by decide +kernel
theorem dX6_turn_90 : decode cX6_turn 90 = .ok (.iconst 3, 1) := by decide +kernel
theorem dX6_turn_91 : decode cX6_turn 91 = .ok (.irem, 1) := by decide +kernel
theorem dX6_turn_92 : decode cX6_turn 92 = .ok (.ifCond .ne 7, 3) := by decide +kernel
theorem dX6_turn_95 : decode cX6_turn 95 = .ok (.iconst 1, 1) := by decide +kernel
theorem dX6_turn_96 : decode cX6_turn 96 = .ok (.goto 4, 3) := by decide +kernel
theorem dX6_turn_99 : decode cX6_turn 99 = .ok (.iconst 0, 1) := by decide +kernel
theorem dX6_turn_100 : decode cX6_turn 100 = .ok (.iadd, 1) := by decide +kernel
theorem dX6_turn_101 : decode cX6_turn 101 = .ok (.iastore, 1) := by decide +kernel
theorem dX6_turn_102 : decode cX6_turn 102 = .ok (.goto 7, 3) := by decide +kernel
theorem dX6_turn_105 : decode cX6_turn 105 = .ok (.aload_n 0, 1) := by decide +kernel
theorem dX6_turn_106 : decode cX6_turn 106 = .ok (.invokevirtual 118, 3) := by decide +kernel
theorem dX6_turn_109 : decode cX6_turn 109 = .ok (.return_, 1) := by decide +kernel
theorem dX6_century_0 : decode cX6_century 0 = .ok (.iload_n 1, 1) := by decide +kernel
theorem dX6_century_1 : decode cX6_century 1 = .ok (.iconst 0, 1) := by decide +kernel
theorem dX6_century_2 : decode cX6_century 2 = .ok (.sipush 9999, 3) := by decide +kernel
theorem dX6_century_5 : decode cX6_century 5 = .ok (.invokestatic 50, 3) := by decide +kernel
theorem dX6_century_8 : decode cX6_century 8 = .ok (.ifCond .eq 22, 3) := by decide +kernel
theorem dX6_century_11 : decode cX6_century 11 = .ok (.iload_n 2, 1) := by decide +kernel
theorem dX6_century_12 : decode cX6_century 12 = .ok (.iconst 1, 1) := by decide +kernel
theorem dX6_century_13 : decode cX6_century 13 = .ok (.bipush 40, 2) := by decide +kernel
theorem dX6_century_15 : decode cX6_century 15 = .ok (.invokestatic 50, 3) := by decide +kernel
theorem dX6_century_18 : decode cX6_century 18 = .ok (.ifCond .eq 12, 3) := by decide +kernel
theorem dX6_century_21 : decode cX6_century 21 = .ok (.iload_n 3, 1) := by decide +kernel
theorem dX6_century_22 : decode cX6_century 22 = .ok (.iconst 0, 1) := by decide +kernel
theorem dX6_century_23 : decode cX6_century 23 = .ok (.iconst 1, 1) := by decide +kernel
theorem dX6_century_24 : decode cX6_century 24 = .ok (.invokestatic 50, 3) := by decide +kernel
theorem dX6_century_27 : decode cX6_century 27 = .ok (.ifCond .ne 5, 3) := by decide +kernel
theorem dX6_century_30 : decode cX6_century 30 = .ok (.iconst (-1), 1) := by decide +kernel
theorem dX6_century_31 : decode cX6_century 31 = .ok (.ireturn, 1) := by decide +kernel
theorem dX6_century_32 : decode cX6_century 32 = .ok (.aload_n 0, 1) := by decide +kernel
theorem dX6_century_33 : decode cX6_century 33 = .ok (.invokevirtual 127, 3) := by decide +kernel
theorem dX6_century_36 : decode cX6_century 36 = .ok (.iconst 0, 1) := by decide +kernel
theorem dX6_century_37 : decode cX6_century 37 = .ok (.istore 4, 2) := by decide +kernel
theorem dX6_century_39 : decode cX6_century 39 = .ok (.iload 4, 2) := by decide +kernel
theorem dX6_century_41 : decode cX6_century 41 = .ok (.iload_n 2, 1) := by decide +kernel
theorem dX6_century_42 : decode cX6_century 42 = .ok (.if_icmp .ge 44, 3) := by decide +kernel
theorem dX6_century_45 : decode cX6_century 45 = .ok (.ldc2_w 145, 3) := by decide +kernel
theorem dX6_century_48 : decode cX6_century 48 = .ok (.iload_n 1, 1) := by decide +kernel
theorem dX6_century_49 : decode cX6_century 49 = .ok (.i2l, 1) := by decide +kernel
theorem dX6_century_50 : decode cX6_century 50 = .ok (.lmul, 1) := by decide +kernel
theorem dX6_century_51 : decode cX6_century 51 = .ok (.ldc2_w 147, 3) := by decide +kernel
theorem dX6_century_54 : decode cX6_century 54 = .ok (.iload 4, 2) := by decide +kernel
theorem dX6_century_56 : decode cX6_century 56 = .ok (.i2l, 1) := by decide +kernel
theorem dX6_century_57 : decode cX6_century 57 = .ok (.lmul, 1) := by decide +kernel
theorem dX6_century_58 : decode cX6_century 58 = .ok (.ladd, 1) := by decide +kernel
theorem dX6_century_59 : decode cX6_century 59 = .ok (.lconst 1, 1) := by decide +kernel
theorem dX6_century_60 : decode cX6_century 60 = .ok (.ladd, 1) := by decide +kernel
theorem dX6_century_61 : decode cX6_century 61 = .ok (.lstore 5, 2) := by decide +kernel
theorem dX6_century_63 : decode cX6_century 63 = .ok (.aload_n 0, 1) := by decide +kernel
theorem dX6_century_64 : decode cX6_century 64 = .ok (.lload 5, 2) := by decide +kernel
theorem dX6_century_66 : decode cX6_century 66 = .ok (.lload 5, 2) := by decide +kernel
theorem dX6_century_68 : decode cX6_century 68 = .ok (.lmul, 1) := by decide +kernel
theorem dX6_century_69 : decode cX6_century 69 = .ok (.ldc2_w 149, 3) := by decide +kernel
theorem dX6_century_72 : decode cX6_century 72 = .ok (.lrem, 1) := by decide +kernel
theorem dX6_century_73 : decode cX6_century 73 = .ok (.l2i, 1) := by decide +kernel
theorem dX6_century_74 : decode cX6_century 74 = .ok (.bipush 8, 2) := by decide +kernel
theorem dX6_century_76 : decode cX6_century 76 = .ok (.idiv, 1) := by decide +kernel
theorem dX6_century_77 : decode cX6_century 77 = .ok (.invokevirtual 151, 3) := by decide +kernel
theorem dX6_century_80 : decode cX6_century 80 = .ok (.iinc 4 1, 3) := by decide +kernel
theorem dX6_century_83 : decode cX6_century 83 = .ok (.goto (-44), 3) := by decide +kernel
theorem dX6_century_86 : decode cX6_century 86 = .ok (.iload_n 3, 1) := by decide +kernel
theorem dX6_century_87 : decode cX6_century 87 = .ok (.ifCond .ne 13, 3) := by decide +kernel
theorem dX6_century_90 : decode cX6_century 90 = .ok (.aload_n 0, 1) := by decide +kernel
theorem dX6_century_91 : decode cX6_century 91 = .ok (.getfield 22, 3) := by decide +kernel
theorem dX6_century_94 : decode cX6_century 94 = .ok (.bipush 28, 2) := by decide +kernel
theorem dX6_century_96 : decode cX6_century 96 = .ok (.iaload, 1) := by decide +kernel
theorem dX6_century_97 : decode cX6_century 97 = .ok (.goto 9, 3) := by decide +kernel
theorem dX6_century_100 : decode cX6_century 100 = .ok (.aload_n 0, 1) := by decide +kernel
theorem dX6_century_101 : decode cX6_century 101 = .ok (.bipush 21, 2) := by decide +kernel
theorem dX6_century_103 : decode cX6_century 103 = .ok (.invokevirtual 121, 3) := by decide +kernel
theorem dX6_century_106 : decode cX6_century 106 = .ok (.istore 4, 2) := by decide +kernel
theorem dX6_century_108 : decode cX6_century 108 = .ok (.aload_n 0, 1) := by decide +kernel
theorem dX6_century_109 : decode cX6_century 109 = .ok (.invokevirtual 130, 3) := by decide +kernel
theorem dX6_century_112 : decode cX6_century 112 = .ok (.iload 4, 2) := by decide +kernel
theorem dX6_century_114 : decode cX6_century 114 = .ok (.ireturn, 1) := by decide +kernel
theorem dX6_keep_0 : decode cX6_keep 0 = .ok (.aload_n 0, 1) := by decide +kernel
theorem dX6_keep_1 : decode cX6_keep 1 = .ok (.getfield 83, 3) := by decide +kernel
theorem dX6_keep_4 : decode cX6_keep 4 = .ok (.iconst 2, 1) := by decide +kernel
theorem dX6_keep_5 : decode cX6_keep 5 = .ok (.if_icmp .ne 6, 3) := by decide +kernel
theorem dX6_keep_8 : decode cX6_keep 8 = .ok (.bipush (-3), 2) := by decide +kernel
theorem dX6_keep_10 : decode cX6_keep 10 = .ok (.ireturn, 1) := by decide +kernel
theorem dX6_keep_11 : decode cX6_keep 11 = .ok (.iconst 0, 1) := by decide +kernel
theorem dX6_keep_12 : decode cX6_keep 12 = .ok (.istore_n 1, 1) := by decide +kernel
theorem dX6_keep_13 : decode cX6_keep 13 = .ok (.iload_n 1, 1) := by decide +kernel
theorem dX6_keep_14 : decode cX6_keep 14 = .ok (.bipush 31, 2) := by decide +kernel
theorem dX6_keep_16 : decode cX6_keep 16 = .ok (.if_icmp .ge 29, 3) := by decide +kernel
theorem dX6_keep_19 : decode cX6_keep 19 = .ok (.aload_n 0, 1) := by decide +kernel
theorem dX6_keep_20 : decode cX6_keep 20 = .ok (.getfield 28, 3) := by decide +kernel
theorem dX6_keep_23 : decode cX6_keep 23 = .ok (.bipush 31, 2) := by decide +kernel
theorem dX6_keep_25 : decode cX6_keep 25 = .ok (.aload_n 0, 1) := by decide +kernel
theorem dX6_keep_26 : decode cX6_keep 26 = .ok (.getfield 83, 3) := by decide +kernel
theorem dX6_keep_29 : decode cX6_keep 29 = .ok (.imul, 1) := by decide +kernel
theorem dX6_keep_30 : decode cX6_keep 30 = .ok (.iload_n 1, 1) := by decide +kernel
theorem dX6_keep_31 : decode cX6_keep 31 = .ok (.iadd, 1) := by decide +kernel
theorem dX6_keep_32 : decode cX6_keep 32 = .ok (.aload_n 0, 1) := by decide +kernel
theorem dX6_keep_33 : decode cX6_keep 33 = .ok (.getfield 22, 3) := by decide +kernel
theorem dX6_keep_36 : decode cX6_keep 36 = .ok (.iload_n 1, 1) := by decide +kernel
theorem dX6_keep_37 : decode cX6_keep 37 = .ok (.iaload, 1) := by decide +kernel
theorem dX6_keep_38 : decode cX6_keep 38 = .ok (.iastore, 1) := by decide +kernel
theorem dX6_keep_39 : decode cX6_keep 39 = .ok (.iinc 1 1, 3) := by decide +kernel
theorem dX6_keep_42 : decode cX6_keep 42 = .ok (.goto (-29), 3) := by decide +kernel
theorem dX6_keep_45 : decode cX6_keep 45 = .ok (.aload_n 0, 1) := by decide +kernel
theorem dX6_keep_46 : decode cX6_keep 46 = .ok (.dup, 1) := by decide +kernel
theorem dX6_keep_47 : decode cX6_keep 47 = .ok (.getfield 83, 3) := by decide +kernel
theorem dX6_keep_50 : decode cX6_keep 50 = .ok (.iconst 1, 1) := by decide +kernel
theorem dX6_keep_51 : decode cX6_keep 51 = .ok (.iadd, 1) := by decide +kernel
theorem dX6_keep_52 : decode cX6_keep 52 = .ok (.putfield 83, 3) := by decide +kernel
theorem dX6_keep_55 : decode cX6_keep 55 = .ok (.aload_n 0, 1) := by decide +kernel
theorem dX6_keep_56 : decode cX6_keep 56 = .ok (.getfield 83, 3) := by decide +kernel
theorem dX6_keep_59 : decode cX6_keep 59 = .ok (.ireturn, 1) := by decide +kernel
theorem dX6_back_0 : decode cX6_back 0 = .ok (.aload_n 0, 1) := by decide +kernel
theorem dX6_back_1 : decode cX6_back 1 = .ok (.getfield 83, 3) := by decide +kernel
theorem dX6_back_4 : decode cX6_back 4 = .ok (.ifCond .ne 6, 3) := by decide +kernel
theorem dX6_back_7 : decode cX6_back 7 = .ok (.bipush (-2), 2) := by decide +kernel
theorem dX6_back_9 : decode cX6_back 9 = .ok (.ireturn, 1) := by decide +kernel
theorem dX6_back_10 : decode cX6_back 10 = .ok (.aload_n 0, 1) := by decide +kernel
theorem dX6_back_11 : decode cX6_back 11 = .ok (.dup, 1) := by decide +kernel
theorem dX6_back_12 : decode cX6_back 12 = .ok (.getfield 83, 3) := by decide +kernel
theorem dX6_back_15 : decode cX6_back 15 = .ok (.iconst 1, 1) := by decide +kernel
theorem dX6_back_16 : decode cX6_back 16 = .ok (.isub, 1) := by decide +kernel
theorem dX6_back_17 : decode cX6_back 17 = .ok (.putfield 83, 3) := by decide +kernel
theorem dX6_back_20 : decode cX6_back 20 = .ok (.iconst 0, 1) := by decide +kernel
theorem dX6_back_21 : decode cX6_back 21 = .ok (.istore_n 1, 1) := by decide +kernel
theorem dX6_back_22 : decode cX6_back 22 = .ok (.iload_n 1, 1) := by decide +kernel
theorem dX6_back_23 : decode cX6_back 23 = .ok (.bipush 31, 2) := by decide +kernel
theorem dX6_back_25 : decode cX6_back 25 = .ok (.if_icmp .ge 29, 3) := by decide +kernel
theorem dX6_back_28 : decode cX6_back 28 = .ok (.aload_n 0, 1) := by decide +kernel
theorem dX6_back_29 : decode cX6_back 29 = .ok (.getfield 22, 3) := by decide +kernel
theorem dX6_back_32 : decode cX6_back 32 = .ok (.iload_n 1, 1) := by decide +kernel
theorem dX6_back_33 : decode cX6_back 33 = .ok (.aload_n 0, 1) := by decide +kernel
theorem dX6_back_34 : decode cX6_back 34 = .ok (.getfield 28, 3) := by decide +kernel
theorem dX6_back_37 : decode cX6_back 37 = .ok (.bipush 31, 2) := by decide +kernel
theorem dX6_back_39 : decode cX6_back 39 = .ok (.aload_n 0, 1) := by decide +kernel
theorem dX6_back_40 : decode cX6_back 40 = .ok (.getfield 83, 3) := by decide +kernel
theorem dX6_back_43 : decode cX6_back 43 = .ok (.imul, 1) := by decide +kernel
theorem dX6_back_44 : decode cX6_back 44 = .ok (.iload_n 1, 1) := by decide +kernel
theorem dX6_back_45 : decode cX6_back 45 = .ok (.iadd, 1) := by decide +kernel
theorem dX6_back_46 : decode cX6_back 46 = .ok (.iaload, 1) := by decide +kernel
theorem dX6_back_47 : decode cX6_back 47 = .ok (.iastore, 1) := by decide +kernel
theorem dX6_back_48 : decode cX6_back 48 = .ok (.iinc 1 1, 3) := by decide +kernel
theorem dX6_back_51 : decode cX6_back 51 = .ok (.goto (-29), 3) := by decide +kernel
theorem dX6_back_54 : decode cX6_back 54 = .ok (.aload_n 0, 1) := by decide +kernel
theorem dX6_back_55 : decode cX6_back 55 = .ok (.iconst 0, 1) := by decide +kernel
theorem dX6_back_56 : decode cX6_back 56 = .ok (.putfield 80, 3) := by decide +kernel
theorem dX6_back_59 : decode cX6_back 59 = .ok (.aload_n 0, 1) := by decide +kernel
theorem dX6_back_60 : decode cX6_back 60 = .ok (.getfield 83, 3) := by decide +kernel
theorem dX6_back_63 : decode cX6_back 63 = .ok (.ireturn, 1) := by decide +kernel
theorem dX6_count_0 : decode cX6_count 0 = .ok (.iload_n 1, 1) := by decide +kernel
theorem dX6_count_1 : decode cX6_count 1 = .ok (.tableswitch 131 0 10 #[59, 66, 74, 82, 90, 97, 104, 111, 116, 121, 126], 59) := by decide +kernel
theorem dX6_count_60 : decode cX6_count 60 = .ok (.aload_n 0, 1) := by decide +kernel
theorem dX6_count_61 : decode cX6_count 61 = .ok (.getfield 13, 3) := by decide +kernel
theorem dX6_count_64 : decode cX6_count 64 = .ok (.iconst 0, 1) := by decide +kernel
theorem dX6_count_65 : decode cX6_count 65 = .ok (.iaload, 1) := by decide +kernel
theorem dX6_count_66 : decode cX6_count 66 = .ok (.ireturn, 1) := by decide +kernel
theorem dX6_count_67 : decode cX6_count 67 = .ok (.aload_n 0, 1) := by decide +kernel
theorem dX6_count_68 : decode cX6_count 68 = .ok (.getfield 22, 3) := by decide +kernel
theorem dX6_count_71 : decode cX6_count 71 = .ok (.bipush 28, 2) := by decide +kernel
theorem dX6_count_73 : decode cX6_count 73 = .ok (.iaload, 1) := by decide +kernel
theorem dX6_count_74 : decode cX6_count 74 = .ok (.ireturn, 1) := by decide +kernel
theorem dX6_count_75 : decode cX6_count 75 = .ok (.aload_n 0, 1) := by decide +kernel
theorem dX6_count_76 : decode cX6_count 76 = .ok (.getfield 22, 3) := by decide +kernel
theorem dX6_count_79 : decode cX6_count 79 = .ok (.bipush 29, 2) := by decide +kernel
theorem dX6_count_81 : decode cX6_count 81 = .ok (.iaload, 1) := by decide +kernel
theorem dX6_count_82 : decode cX6_count 82 = .ok (.ireturn, 1) := by decide +kernel
theorem dX6_count_83 : decode cX6_count 83 = .ok (.aload_n 0, 1) := by decide +kernel
theorem dX6_count_84 : decode cX6_count 84 = .ok (.getfield 22, 3) := by decide +kernel
theorem dX6_count_87 : decode cX6_count 87 = .ok (.bipush 30, 2) := by decide +kernel
theorem dX6_count_89 : decode cX6_count 89 = .ok (.iaload, 1) := by decide +kernel
theorem dX6_count_90 : decode cX6_count 90 = .ok (.ireturn, 1) := by decide +kernel
theorem dX6_count_91 : decode cX6_count 91 = .ok (.aload_n 0, 1) := by decide +kernel
theorem dX6_count_92 : decode cX6_count 92 = .ok (.getfield 13, 3) := by decide +kernel
theorem dX6_count_95 : decode cX6_count 95 = .ok (.iconst 1, 1) := by decide +kernel
theorem dX6_count_96 : decode cX6_count 96 = .ok (.iaload, 1) := by decide +kernel
theorem dX6_count_97 : decode cX6_count 97 = .ok (.ireturn, 1) := by decide +kernel
theorem dX6_count_98 : decode cX6_count 98 = .ok (.aload_n 0, 1) := by decide +kernel
theorem dX6_count_99 : decode cX6_count 99 = .ok (.bipush 14, 2) := by decide +kernel
theorem dX6_count_101 : decode cX6_count 101 = .ok (.invokevirtual 121, 3) := by decide +kernel
theorem dX6_count_104 : decode cX6_count 104 = .ok (.ireturn, 1) := by decide +kernel
theorem dX6_count_105 : decode cX6_count 105 = .ok (.aload_n 0, 1) := by decide +kernel
theorem dX6_count_106 : decode cX6_count 106 = .ok (.bipush 21, 2) := by decide +kernel
theorem dX6_count_108 : decode cX6_count 108 = .ok (.invokevirtual 121, 3) := by decide +kernel
theorem dX6_count_111 : decode cX6_count 111 = .ok (.ireturn, 1) := by decide +kernel
theorem dX6_count_112 : decode cX6_count 112 = .ok (.aload_n 0, 1) := by decide +kernel
theorem dX6_count_113 : decode cX6_count 113 = .ok (.getfield 86, 3) := by decide +kernel
theorem dX6_count_116 : decode cX6_count 116 = .ok (.ireturn, 1) := by decide +kernel
theorem dX6_count_117 : decode cX6_count 117 = .ok (.aload_n 0, 1) := by decide +kernel
theorem dX6_count_118 : decode cX6_count 118 = .ok (.getfield 80, 3) := by decide +kernel
theorem dX6_count_121 : decode cX6_count 121 = .ok (.ireturn, 1) := by decide +kernel
theorem dX6_count_122 : decode cX6_count 122 = .ok (.aload_n 0, 1) := by decide +kernel
theorem dX6_count_123 : decode cX6_count 123 = .ok (.getfield 83, 3) := by decide +kernel
theorem dX6_count_126 : decode cX6_count 126 = .ok (.ireturn, 1) := by decide +kernel
theorem dX6_count_127 : decode cX6_count 127 = .ok (.aload_n 0, 1) := by decide +kernel
theorem dX6_count_128 : decode cX6_count 128 = .ok (.getfield 54, 3) := by decide +kernel
theorem dX6_count_131 : decode cX6_count 131 = .ok (.ireturn, 1) := by decide +kernel
theorem dX6_count_132 : decode cX6_count 132 = .ok (.iconst (-1), 1) := by decide +kernel
theorem dX6_count_133 : decode cX6_count 133 = .ok (.ireturn, 1) := by decide +kernel
end
section
theorem dJ6_bitCount_0f7a4_0 : decode cJ6_bitCount_0f7a4 0 = .ok (.iload_n 0, 1) := by decide +kernel
theorem dJ6_bitCount_0f7a4_1 : decode cJ6_bitCount_0f7a4 1 = .ok (.iload_n 0, 1) := by decide +kernel
theorem dJ6_bitCount_0f7a4_2 : decode cJ6_bitCount_0f7a4 2 = .ok (.iconst 1, 1) := by decide +kernel
theorem dJ6_bitCount_0f7a4_3 : decode cJ6_bitCount_0f7a4 3 = .ok (.iushr, 1) := by decide +kernel
theorem dJ6_bitCount_0f7a4_4 : decode cJ6_bitCount_0f7a4 4 = .ok (.ldc_w 265, 3) := by decide +kernel
theorem dJ6_bitCount_0f7a4_7 : decode cJ6_bitCount_0f7a4 7 = .ok (.iand, 1) := by decide +kernel
theorem dJ6_bitCount_0f7a4_8 : decode cJ6_bitCount_0f7a4 8 = .ok (.isub, 1) := by decide +kernel
theorem dJ6_bitCount_0f7a4_9 : decode cJ6_bitCount_0f7a4 9 = .ok (.istore_n 0, 1) := by decide +kernel
theorem dJ6_bitCount_0f7a4_10 : decode cJ6_bitCount_0f7a4 10 = .ok (.iload_n 0, 1) := by decide +kernel
theorem dJ6_bitCount_0f7a4_11 : decode cJ6_bitCount_0f7a4 11 = .ok (.ldc_w 266, 3) := by decide +kernel
theorem dJ6_bitCount_0f7a4_14 : decode cJ6_bitCount_0f7a4 14 = .ok (.iand, 1) := by decide +kernel
theorem dJ6_bitCount_0f7a4_15 : decode cJ6_bitCount_0f7a4 15 = .ok (.iload_n 0, 1) := by decide +kernel
theorem dJ6_bitCount_0f7a4_16 : decode cJ6_bitCount_0f7a4 16 = .ok (.iconst 2, 1) := by decide +kernel
theorem dJ6_bitCount_0f7a4_17 : decode cJ6_bitCount_0f7a4 17 = .ok (.iushr, 1) := by decide +kernel
theorem dJ6_bitCount_0f7a4_18 : decode cJ6_bitCount_0f7a4 18 = .ok (.ldc_w 266, 3) := by decide +kernel
theorem dJ6_bitCount_0f7a4_21 : decode cJ6_bitCount_0f7a4 21 = .ok (.iand, 1) := by decide +kernel
theorem dJ6_bitCount_0f7a4_22 : decode cJ6_bitCount_0f7a4 22 = .ok (.iadd, 1) := by decide +kernel
theorem dJ6_bitCount_0f7a4_23 : decode cJ6_bitCount_0f7a4 23 = .ok (.istore_n 0, 1) := by decide +kernel
theorem dJ6_bitCount_0f7a4_24 : decode cJ6_bitCount_0f7a4 24 = .ok (.iload_n 0, 1) := by decide +kernel
theorem dJ6_bitCount_0f7a4_25 : decode cJ6_bitCount_0f7a4 25 = .ok (.iload_n 0, 1) := by decide +kernel
theorem dJ6_bitCount_0f7a4_26 : decode cJ6_bitCount_0f7a4 26 = .ok (.iconst 4, 1) := by decide +kernel
theorem dJ6_bitCount_0f7a4_27 : decode cJ6_bitCount_0f7a4 27 = .ok (.iushr, 1) := by decide +kernel
theorem dJ6_bitCount_0f7a4_28 : decode cJ6_bitCount_0f7a4 28 = .ok (.iadd, 1) := by decide +kernel
theorem dJ6_bitCount_0f7a4_29 : decode cJ6_bitCount_0f7a4 29 = .ok (.ldc_w 267, 3) := by decide +kernel
theorem dJ6_bitCount_0f7a4_32 : decode cJ6_bitCount_0f7a4 32 = .ok (.iand, 1) := by decide +kernel
theorem dJ6_bitCount_0f7a4_33 : decode cJ6_bitCount_0f7a4 33 = .ok (.istore_n 0, 1) := by decide +kernel
theorem dJ6_bitCount_0f7a4_34 : decode cJ6_bitCount_0f7a4 34 = .ok (.iload_n 0, 1) := by decide +kernel
theorem dJ6_bitCount_0f7a4_35 : decode cJ6_bitCount_0f7a4 35 = .ok (.iload_n 0, 1) := by decide +kernel
theorem dJ6_bitCount_0f7a4_36 : decode cJ6_bitCount_0f7a4 36 = .ok (.bipush 8, 2) := by decide +kernel
theorem dJ6_bitCount_0f7a4_38 : decode cJ6_bitCount_0f7a4 38 = .ok (.iushr, 1) := by decide +kernel
theorem dJ6_bitCount_0f7a4_39 : decode cJ6_bitCount_0f7a4 39 = .ok (.iadd, 1) := by decide +kernel
theorem dJ6_bitCount_0f7a4_40 : decode cJ6_bitCount_0f7a4 40 = .ok (.istore_n 0, 1) := by decide +kernel
theorem dJ6_bitCount_0f7a4_41 : decode cJ6_bitCount_0f7a4 41 = .ok (.iload_n 0, 1) := by decide +kernel
theorem dJ6_bitCount_0f7a4_42 : decode cJ6_bitCount_0f7a4 42 = .ok (.iload_n 0, 1) := by decide +kernel
theorem dJ6_bitCount_0f7a4_43 : decode cJ6_bitCount_0f7a4 43 = .ok (.bipush 16, 2) := by decide +kernel
theorem dJ6_bitCount_0f7a4_45 : decode cJ6_bitCount_0f7a4 45 = .ok (.iushr, 1) := by decide +kernel
theorem dJ6_bitCount_0f7a4_46 : decode cJ6_bitCount_0f7a4 46 = .ok (.iadd, 1) := by decide +kernel
theorem dJ6_bitCount_0f7a4_47 : decode cJ6_bitCount_0f7a4 47 = .ok (.istore_n 0, 1) := by decide +kernel
theorem dJ6_bitCount_0f7a4_48 : decode cJ6_bitCount_0f7a4 48 = .ok (.iload_n 0, 1) := by decide +kernel
theorem dJ6_bitCount_0f7a4_49 : decode cJ6_bitCount_0f7a4 49 = .ok (.bipush 63, 2) := by decide +kernel
theorem dJ6_bitCount_0f7a4_51 : decode cJ6_bitCount_0f7a4 51 = .ok (.iand, 1) := by decide +kernel
theorem dJ6_bitCount_0f7a4_52 : decode cJ6_bitCount_0f7a4 52 = .ok (.ireturn, 1) := by decide +kernel
theorem dJ9_max_7cf53_0 : decode cJ9_max_7cf53 0 = .ok (.iload_n 0, 1) := by decide +kernel
theorem dJ9_max_7cf53_1 : decode cJ9_max_7cf53 1 = .ok (.iload_n 1, 1) := by decide +kernel
theorem dJ9_max_7cf53_2 : decode cJ9_max_7cf53 2 = .ok (.if_icmp .lt 7, 3) := by decide +kernel
theorem dJ9_max_7cf53_5 : decode cJ9_max_7cf53 5 = .ok (.iload_n 0, 1) := by decide +kernel
theorem dJ9_max_7cf53_6 : decode cJ9_max_7cf53 6 = .ok (.goto 4, 3) := by decide +kernel
theorem dJ9_max_7cf53_9 : decode cJ9_max_7cf53 9 = .ok (.iload_n 1, 1) := by decide +kernel
theorem dJ9_max_7cf53_10 : decode cJ9_max_7cf53 10 = .ok (.ireturn, 1) := by decide +kernel
theorem dJ9_min_7cf53_0 : decode cJ9_min_7cf53 0 = .ok (.iload_n 0, 1) := by decide +kernel
theorem dJ9_min_7cf53_1 : decode cJ9_min_7cf53 1 = .ok (.iload_n 1, 1) := by decide +kernel
theorem dJ9_min_7cf53_2 : decode cJ9_min_7cf53 2 = .ok (.if_icmp .gt 7, 3) := by decide +kernel
theorem dJ9_min_7cf53_5 : decode cJ9_min_7cf53 5 = .ok (.iload_n 0, 1) := by decide +kernel
theorem dJ9_min_7cf53_6 : decode cJ9_min_7cf53 6 = .ok (.goto 4, 3) := by decide +kernel
theorem dJ9_min_7cf53_9 : decode cJ9_min_7cf53 9 = .ok (.iload_n 1, 1) := by decide +kernel
theorem dJ9_min_7cf53_10 : decode cJ9_min_7cf53 10 = .ok (.ireturn, 1) := by decide +kernel
theorem dJ0_length_8abf5_0 : decode cJ0_length_8abf5 0 = .ok (.aload_n 0, 1) := by decide +kernel
theorem dJ0_length_8abf5_1 : decode cJ0_length_8abf5 1 = .ok (.getfield 9, 3) := by decide +kernel
theorem dJ0_length_8abf5_4 : decode cJ0_length_8abf5 4 = .ok (.arraylength, 1) := by decide +kernel
theorem dJ0_length_8abf5_5 : decode cJ0_length_8abf5 5 = .ok (.aload_n 0, 1) := by decide +kernel
theorem dJ0_length_8abf5_6 : decode cJ0_length_8abf5 6 = .ok (.invokevirtual 335, 3) := by decide +kernel
theorem dJ0_length_8abf5_9 : decode cJ0_length_8abf5 9 = .ok (.ishr, 1) := by decide +kernel
theorem dJ0_length_8abf5_10 : decode cJ0_length_8abf5 10 = .ok (.ireturn, 1) := by decide +kernel
theorem dJ0_charAt_5068e_0 : decode cJ0_charAt_5068e 0 = .ok (.aload_n 0, 1) := by decide +kernel
theorem dJ0_charAt_5068e_1 : decode cJ0_charAt_5068e 1 = .ok (.invokevirtual 492, 3) := by decide +kernel
theorem dJ0_charAt_5068e_4 : decode cJ0_charAt_5068e 4 = .ok (.ifCond .eq 12, 3) := by decide +kernel
theorem dJ0_charAt_5068e_7 : decode cJ0_charAt_5068e 7 = .ok (.aload_n 0, 1) := by decide +kernel
theorem dJ0_charAt_5068e_8 : decode cJ0_charAt_5068e 8 = .ok (.getfield 9, 3) := by decide +kernel
theorem dJ0_charAt_5068e_11 : decode cJ0_charAt_5068e 11 = .ok (.iload_n 1, 1) := by decide +kernel
theorem dJ0_charAt_5068e_12 : decode cJ0_charAt_5068e 12 = .ok (.invokestatic 495, 3) := by decide +kernel
theorem dJ0_charAt_5068e_15 : decode cJ0_charAt_5068e 15 = .ok (.ireturn, 1) := by decide +kernel
theorem dJ0_charAt_5068e_16 : decode cJ0_charAt_5068e 16 = .ok (.aload_n 0, 1) := by decide +kernel
theorem dJ0_charAt_5068e_17 : decode cJ0_charAt_5068e 17 = .ok (.getfield 9, 3) := by decide +kernel
theorem dJ0_charAt_5068e_20 : decode cJ0_charAt_5068e 20 = .ok (.iload_n 1, 1) := by decide +kernel
theorem dJ0_charAt_5068e_21 : decode cJ0_charAt_5068e 21 = .ok (.invokestatic 498, 3) := by decide +kernel
theorem dJ0_charAt_5068e_24 : decode cJ0_charAt_5068e 24 = .ok (.ireturn, 1) := by decide +kernel
theorem dJ0_coder_7d493_0 : decode cJ0_coder_7d493 0 = .ok (.getstatic 38, 3) := by decide +kernel
theorem dJ0_coder_7d493_3 : decode cJ0_coder_7d493 3 = .ok (.ifCond .eq 10, 3) := by decide +kernel
theorem dJ0_coder_7d493_6 : decode cJ0_coder_7d493 6 = .ok (.aload_n 0, 1) := by decide +kernel
theorem dJ0_coder_7d493_7 : decode cJ0_coder_7d493 7 = .ok (.getfield 15, 3) := by decide +kernel
theorem dJ0_coder_7d493_10 : decode cJ0_coder_7d493 10 = .ok (.goto 4, 3) := by decide +kernel
theorem dJ0_coder_7d493_13 : decode cJ0_coder_7d493 13 = .ok (.iconst 1, 1) := by decide +kernel
theorem dJ0_coder_7d493_14 : decode cJ0_coder_7d493 14 = .ok (.ireturn, 1) := by decide +kernel
theorem dJ0_isLatin1_aae02_0 : decode cJ0_isLatin1_aae02 0 = .ok (.getstatic 38, 3) := by decide +kernel
theorem dJ0_isLatin1_aae02_3 : decode cJ0_isLatin1_aae02 3 = .ok (.ifCond .eq 14, 3) := by decide +kernel
theorem dJ0_isLatin1_aae02_6 : decode cJ0_isLatin1_aae02 6 = .ok (.aload_n 0, 1) := by decide +kernel
theorem dJ0_isLatin1_aae02_7 : decode cJ0_isLatin1_aae02 7 = .ok (.getfield 15, 3) := by decide +kernel
theorem dJ0_isLatin1_aae02_10 : decode cJ0_isLatin1_aae02 10 = .ok (.ifCond .ne 7, 3) := by decide +kernel
theorem dJ0_isLatin1_aae02_13 : decode cJ0_isLatin1_aae02 13 = .ok (.iconst 1, 1) := by decide +kernel
theorem dJ0_isLatin1_aae02_14 : decode cJ0_isLatin1_aae02 14 = .ok (.goto 4, 3) := by decide +kernel
theorem dJ0_isLatin1_aae02_17 : decode cJ0_isLatin1_aae02 17 = .ok (.iconst 0, 1) := by decide +kernel
theorem dJ0_isLatin1_aae02_18 : decode cJ0_isLatin1_aae02 18 = .ok (.ireturn, 1) := by decide +kernel
theorem dJ0_checkIndex_df160_0 : decode cJ0_checkIndex_df160 0 = .ok (.iload_n 0, 1) := by decide +kernel
theorem dJ0_checkIndex_df160_1 : decode cJ0_checkIndex_df160 1 = .ok (.iload_n 1, 1) := by decide +kernel
theorem dJ0_checkIndex_df160_2 : decode cJ0_checkIndex_df160 2 = .ok (.getstatic 1053, 3) := by decide +kernel
theorem dJ0_checkIndex_df160_5 : decode cJ0_checkIndex_df160 5 = .ok (.invokestatic 1059, 3) := by decide +kernel
theorem dJ0_checkIndex_df160_8 : decode cJ0_checkIndex_df160 8 = .ok (.pop, 1) := by decide +kernel
theorem dJ0_checkIndex_df160_9 : decode cJ0_checkIndex_df160 9 = .ok (.return_, 1) := by decide +kernel
theorem dJ1_charAt_3b067_0 : decode cJ1_charAt_3b067 0 = .ok (.iload_n 1, 1) := by decide +kernel
theorem dJ1_charAt_3b067_1 : decode cJ1_charAt_3b067 1 = .ok (.aload_n 0, 1) := by decide +kernel
theorem dJ1_charAt_3b067_2 : decode cJ1_charAt_3b067 2 = .ok (.arraylength, 1) := by decide +kernel
theorem dJ1_charAt_3b067_3 : decode cJ1_charAt_3b067 3 = .ok (.invokestatic 9, 3) := by decide +kernel
theorem dJ1_charAt_3b067_6 : decode cJ1_charAt_3b067 6 = .ok (.aload_n 0, 1) := by decide +kernel
theorem dJ1_charAt_3b067_7 : decode cJ1_charAt_3b067 7 = .ok (.iload_n 1, 1) := by decide +kernel
theorem dJ1_charAt_3b067_8 : decode cJ1_charAt_3b067 8 = .ok (.baload, 1) := by decide +kernel
theorem dJ1_charAt_3b067_9 : decode cJ1_charAt_3b067 9 = .ok (.sipush 255, 3) := by decide +kernel
theorem dJ1_charAt_3b067_12 : decode cJ1_charAt_3b067 12 = .ok (.iand, 1) := by decide +kernel
theorem dJ1_charAt_3b067_13 : decode cJ1_charAt_3b067 13 = .ok (.i2c, 1) := by decide +kernel
theorem dJ1_charAt_3b067_14 : decode cJ1_charAt_3b067 14 = .ok (.ireturn, 1) := by decide +kernel
theorem dJ2_getChar_3b067_0 : decode cJ2_getChar_3b067 0 = .ok (.getstatic 44, 3) := by decide +kernel
theorem dJ2_getChar_3b067_3 : decode cJ2_getChar_3b067 3 = .ok (.ifCond .ne 25, 3) := by decide +kernel
theorem dJ2_getChar_3b067_6 : decode cJ2_getChar_3b067 6 = .ok (.iload_n 1, 1) := by decide +kernel
theorem dJ2_getChar_3b067_7 : decode cJ2_getChar_3b067 7 = .ok (.ifCond .lt 11, 3) := by decide +kernel
theorem dJ2_getChar_3b067_10 : decode cJ2_getChar_3b067 10 = .ok (.iload_n 1, 1) := by decide +kernel
theorem dJ2_getChar_3b067_11 : decode cJ2_getChar_3b067 11 = .ok (.aload_n 0, 1) := by decide +kernel
theorem dJ2_getChar_3b067_12 : decode cJ2_getChar_3b067 12 = .ok (.invokestatic 48, 3) := by decide +kernel
theorem dJ2_getChar_3b067_15 : decode cJ2_getChar_3b067 15 = .ok (.if_icmp .lt 13, 3) := by decide +kernel
theorem dJ2_getChar_3b067_18 : decode cJ2_getChar_3b067 18 = .ok (.new 52, 3) := by decide +kernel
theorem dJ2_getChar_3b067_21 : decode cJ2_getChar_3b067 21 = .ok (.dup, 1) := by decide +kernel
theorem dJ2_getChar_3b067_22 : decode cJ2_getChar_3b067 22 = .ok (.ldc 54, 2) := by decide +kernel
theorem dJ2_getChar_3b067_24 : decode cJ2_getChar_3b067 24 = .ok (.invokespecial 56, 3) := by decide +kernel
theorem dJ2_getChar_3b067_27 : decode cJ2_getChar_3b067 27 = .ok (.athrow, 1) := by decide +kernel
theorem dJ2_getChar_3b067_28 : decode cJ2_getChar_3b067 28 = .ok (.iload_n 1, 1) := by decide +kernel
theorem dJ2_getChar_3b067_29 : decode cJ2_getChar_3b067 29 = .ok (.iconst 1, 1) := by decide +kernel
theorem dJ2_getChar_3b067_30 : decode cJ2_getChar_3b067 30 = .ok (.ishl, 1) := by decide +kernel
theorem dJ2_getChar_3b067_31 : decode cJ2_getChar_3b067 31 = .ok (.istore_n 1, 1) := by decide +kernel
theorem dJ2_getChar_3b067_32 : decode cJ2_getChar_3b067 32 = .ok (.aload_n 0, 1) := by decide +kernel
theorem dJ2_getChar_3b067_33 : decode cJ2_getChar_3b067 33 = .ok (.iload_n 1, 1) := by decide +kernel
theorem dJ2_getChar_3b067_34 : decode cJ2_getChar_3b067 34 = .ok (.iinc 1 1, 3) := by decide +kernel
theorem dJ2_getChar_3b067_37 : decode cJ2_getChar_3b067 37 = .ok (.baload, 1) := by decide +kernel
theorem dJ2_getChar_3b067_38 : decode cJ2_getChar_3b067 38 = .ok (.sipush 255, 3) := by decide +kernel
theorem dJ2_getChar_3b067_41 : decode cJ2_getChar_3b067 41 = .ok (.iand, 1) := by decide +kernel
theorem dJ2_getChar_3b067_42 : decode cJ2_getChar_3b067 42 = .ok (.getstatic 59, 3) := by decide +kernel
theorem dJ2_getChar_3b067_45 : decode cJ2_getChar_3b067 45 = .ok (.ishl, 1) := by decide +kernel
theorem dJ2_getChar_3b067_46 : decode cJ2_getChar_3b067 46 = .ok (.aload_n 0, 1) := by decide +kernel
theorem dJ2_getChar_3b067_47 : decode cJ2_getChar_3b067 47 = .ok (.iload_n 1, 1) := by decide +kernel
theorem dJ2_getChar_3b067_48 : decode cJ2_getChar_3b067 48 = .ok (.baload, 1) := by decide +kernel
theorem dJ2_getChar_3b067_49 : decode cJ2_getChar_3b067 49 = .ok (.sipush 255, 3) := by decide +kernel
theorem dJ2_getChar_3b067_52 : decode cJ2_getChar_3b067 52 = .ok (.iand, 1) := by decide +kernel
theorem dJ2_getChar_3b067_53 : decode cJ2_getChar_3b067 53 = .ok (.getstatic 63, 3) := by decide +kernel
theorem dJ2_getChar_3b067_56 : decode cJ2_getChar_3b067 56 = .ok (.ishl, 1) := by decide +kernel
theorem dJ2_getChar_3b067_57 : decode cJ2_getChar_3b067 57 = .ok (.ior, 1) := by decide +kernel
theorem dJ2_getChar_3b067_58 : decode cJ2_getChar_3b067 58 = .ok (.i2c, 1) := by decide +kernel
theorem dJ2_getChar_3b067_59 : decode cJ2_getChar_3b067 59 = .ok (.ireturn, 1) := by decide +kernel
theorem dJ2_length_9d52b_0 : decode cJ2_length_9d52b 0 = .ok (.aload_n 0, 1) := by decide +kernel
theorem dJ2_length_9d52b_1 : decode cJ2_length_9d52b 1 = .ok (.arraylength, 1) := by decide +kernel
theorem dJ2_length_9d52b_2 : decode cJ2_length_9d52b 2 = .ok (.iconst 1, 1) := by decide +kernel
theorem dJ2_length_9d52b_3 : decode cJ2_length_9d52b 3 = .ok (.ishr, 1) := by decide +kernel
theorem dJ2_length_9d52b_4 : decode cJ2_length_9d52b 4 = .ok (.ireturn, 1) := by decide +kernel
theorem dJ2_charAt_3b067_0 : decode cJ2_charAt_3b067 0 = .ok (.iload_n 1, 1) := by decide +kernel
theorem dJ2_charAt_3b067_1 : decode cJ2_charAt_3b067 1 = .ok (.aload_n 0, 1) := by decide +kernel
theorem dJ2_charAt_3b067_2 : decode cJ2_charAt_3b067 2 = .ok (.invokestatic 67, 3) := by decide +kernel
theorem dJ2_charAt_3b067_5 : decode cJ2_charAt_3b067 5 = .ok (.aload_n 0, 1) := by decide +kernel
theorem dJ2_charAt_3b067_6 : decode cJ2_charAt_3b067 6 = .ok (.iload_n 1, 1) := by decide +kernel
theorem dJ2_charAt_3b067_7 : decode cJ2_charAt_3b067 7 = .ok (.invokestatic 71, 3) := by decide +kernel
theorem dJ2_charAt_3b067_10 : decode cJ2_charAt_3b067 10 = .ok (.ireturn, 1) := by decide +kernel
theorem dJ2_checkIndex_2214a_0 : decode cJ2_checkIndex_2214a 0 = .ok (.iload_n 0, 1) := by decide +kernel
theorem dJ2_checkIndex_2214a_1 : decode cJ2_checkIndex_2214a 1 = .ok (.aload_n 1, 1) := by decide +kernel
theorem dJ2_checkIndex_2214a_2 : decode cJ2_checkIndex_2214a 2 = .ok (.invokestatic 48, 3) := by decide +kernel
theorem dJ2_checkIndex_2214a_5 : decode cJ2_checkIndex_2214a 5 = .ok (.invokestatic 414, 3) := by decide +kernel
theorem dJ2_checkIndex_2214a_8 : decode cJ2_checkIndex_2214a 8 = .ok (.return_, 1) := by decide +kernel
theorem dJ3_checkIndex_8e157_0 : decode cJ3_checkIndex_8e157 0 = .ok (.iload_n 0, 1) := by decide +kernel
theorem dJ3_checkIndex_8e157_1 : decode cJ3_checkIndex_8e157 1 = .ok (.ifCond .lt 8, 3) := by decide +kernel
theorem dJ3_checkIndex_8e157_4 : decode cJ3_checkIndex_8e157 4 = .ok (.iload_n 0, 1) := by decide +kernel
theorem dJ3_checkIndex_8e157_5 : decode cJ3_checkIndex_8e157 5 = .ok (.iload_n 1, 1) := by decide +kernel
theorem dJ3_checkIndex_8e157_6 : decode cJ3_checkIndex_8e157 6 = .ok (.if_icmp .lt 10, 3) := by decide +kernel
theorem dJ3_checkIndex_8e157_9 : decode cJ3_checkIndex_8e157 9 = .ok (.aload_n 2, 1) := by decide +kernel
theorem dJ3_checkIndex_8e157_10 : decode cJ3_checkIndex_8e157 10 = .ok (.iload_n 0, 1) := by decide +kernel
theorem dJ3_checkIndex_8e157_11 : decode cJ3_checkIndex_8e157 11 = .ok (.iload_n 1, 1) := by decide +kernel
theorem dJ3_checkIndex_8e157_12 : decode cJ3_checkIndex_8e157 12 = .ok (.invokestatic 95, 3) := by decide +kernel
theorem dJ3_checkIndex_8e157_15 : decode cJ3_checkIndex_8e157 15 = .ok (.athrow, 1) := by decide +kernel
theorem dJ3_checkIndex_8e157_16 : decode cJ3_checkIndex_8e157 16 = .ok (.iload_n 0, 1) := by decide +kernel
theorem dJ3_checkIndex_8e157_17 : decode cJ3_checkIndex_8e157 17 = .ok (.ireturn, 1) := by decide +kernel
end
section
/-! THE LAYER OF WHOLE WORLDS. K: launch, world constants, addresses' kind, address map, number of cells, array classes; X: the machine's place -/
def iI (z : Int) : Int32 := Int32.ofInt z
def zB (z : Int) : Prop := -2147483648 ≤ z ∧ z < 2147483648
theorem iI_toInt {z : Int} (h : zB z) : (iI z).toInt = z := by
  unfold iI
  exact Int32.toInt_ofInt_of_le (by have := h.1; omega) (by have := h.2; omega)
theorem iI_add (a b : Int) : iI a + iI b = iI (a + b) := by unfold iI; exact (Int32.ofInt_add a b).symm
theorem iI_sub (a b : Int) : iI a - iI b = iI (a - b) := by unfold iI; exact (Int32.ofInt_sub a b).symm
theorem iI_mul (a b : Int) : iI a * iI b = iI (a * b) := by unfold iI; exact (Int32.ofInt_mul a b).symm
theorem iI_inj {a b : Int} (ha : zB a) (hb : zB b) : iI a = iI b ↔ a = b := by
  constructor
  · intro h
    have h2 := congrArg Int32.toInt h
    rwa [iI_toInt ha, iI_toInt hb] at h2
  · intro h; rw [h]
theorem iI_lt {a b : Int} (ha : zB a) (hb : zB b) : iI a < iI b ↔ a < b := by
  rw [Int32.lt_iff_toInt_lt, iI_toInt ha, iI_toInt hb]
theorem iI_le {a b : Int} (ha : zB a) (hb : zB b) : iI a ≤ iI b ↔ a ≤ b := by
  rw [Int32.le_iff_toInt_le, iI_toInt ha, iI_toInt hb]
theorem iI_of (x : Int32) : x = iI x.toInt := by
  unfold iI
  exact (Int32.ofInt_toInt x).symm
theorem zB_toInt (x : Int32) : zB x.toInt := ⟨by have := x.le_toInt; omega, by have := x.toInt_lt; omega⟩
theorem iI_cl {z : Int} (h0 : 0 ≤ z) (h : z < 2147483648) : (iI z).toNatClampNeg = z.toNat := by
  show (iI z).toInt.toNat = _
  rw [iI_toInt ⟨by omega, h⟩]
theorem iI_in {z : Int} {n : Nat} (h0 : 0 ≤ z) (h : z < n) (hn : n < 2147483648) : vp_in (iI z) n := by
  have hb : zB z := ⟨by omega, by omega⟩
  rw [vp_in_iff, iI_toInt hb]
  exact ⟨h0, h⟩
theorem iI_nat (n : Nat) : Int32.ofNat n = iI (n : Int) := by
  unfold iI
  rfl
def uI (g : Int → Int) (k v : Int) : Int → Int := fun y => if y = k then v else g y
theorem uI_s (g : Int → Int) (k v : Int) : uI g k v k = v := by simp [uI]
theorem uI_n (g : Int → Int) {k y : Int} (v : Int) (h : y ≠ k) : uI g k v y = g y := by simp [uI, h]
def aI (g : Int → Int) : Nat → Int32 := fun q => iI (g (q : Int))
theorem aI_rd (g : Int → Int) {z : Int} (h0 : 0 ≤ z) (h : z < 2147483648) : aI g (iI z).toNatClampNeg = iI (g z) := by
  unfold aI
  rw [iI_cl h0 h, Int.toNat_of_nonneg h0]
theorem aI_up (g : Int → Int) {z : Int} (v : Int) (h0 : 0 ≤ z) (h : z < 2147483648) : upd (aI g) (iI z).toNatClampNeg (iI v) = aI (uI g z v) := by
  funext q
  unfold upd aI uI
  rw [iI_cl h0 h]
  by_cases hq : q = z.toNat
  · have h2 : (q : Int) = z := by omega
    rw [if_pos hq, if_pos h2]
  · have h2 : ¬ (q : Int) = z := by omega
    rw [if_neg hq, if_neg h2]
abbrev zK : Type := Launch × va_G × (Nat → Prop) × (Nat → Nat) × Nat × ClassId × ClassId × ClassId
abbrev zX : Type := Program × Env × Room × State × MethodId × Array Value × List Frame × Method × Code × (State → Prop) × Nat × Nat
abbrev zE : Type := Nat → va_E
def kl (K : zK) : Launch := K.1
def kD (K : zK) : va_G := K.2.1
def kA (K : zK) : Nat → Prop := K.2.2.1
def kad (K : zK) : Nat → Nat := K.2.2.2.1
def kN (K : zK) : Nat := K.2.2.2.2.1
def kI (K : zK) : ClassId := K.2.2.2.2.2.1
def kC (K : zK) : ClassId := K.2.2.2.2.2.2.1
def kS (K : zK) : ClassId := K.2.2.2.2.2.2.2
def zty (K : zK) : List (ClassId × FieldType) := [(kI K, .int), (kC K, .char), (kS K, .object RX3)]
def zwl (K : zK) (ct : zE) : va_W := (List.range (kN K)).map (fun k => (kad K k, ct k))
def zup (ct : zE) (k : Nat) (e : va_E) : zE := fun j => if j = k then e else ct j
def zInj (K : zK) : Prop := (∀ i j : Nat, i < kN K → j < kN K → kad K i = kad K j → i = j) ∧ ∀ i : Nat, i < kN K → kA K (kad K i)
/-- the links among nest mates, which no list of words keeps -/
def zNest (U : State) : Prop := va_Nw (.methodLinkNest RX3 46 yX5_isOutside RX5) U ∧ va_Nw (.methodLinkNest RX0 33 yX5_isOutside RX5) U ∧ va_Nw (.methodLinkNest RX2 22 yX5_isOutside RX5) U
theorem zNest_warm {s U : State} (hW : s.WarmedH U.vm) (h : zNest s) : zNest U := ⟨va_Nw.warmM hW h.1, va_Nw.warmM hW h.2.1, va_Nw.warmM hW h.2.2⟩
theorem zNest_same {u U : State} (hv : u.vm = U.vm) (h : zNest u) : zNest U := ⟨va_Nw.same rfl hv h.1, va_Nw.same rfl hv h.2.1, va_Nw.same rfl hv h.2.2⟩
theorem zwl_at {K : zK} {ct : zE} {k : Nat} (h : k < kN K) : (zwl K ct)[k]? = some (kad K k, ct k) := by
  unfold zwl
  rw [List.getElem?_map, List.getElem?_range h]
  rfl
theorem zwl_set {K : zK} {ct : zE} {k : Nat} (e : va_E) : (zwl K ct).set k (kad K k, e) = zwl K (zup ct k e) := by
  apply List.ext_getElem?
  intro i
  rw [List.getElem?_set]
  unfold zwl zup
  simp only [List.getElem?_map, List.length_map, List.length_range]
  by_cases hi : k = i
  · subst hi
    by_cases hk : k < kN K
    · simp [hk, List.getElem?_range hk]
    · simp [hk]
  · rw [if_neg hi]
    by_cases hk : i < kN K
    · rw [List.getElem?_range hk]
      simp [Ne.symm hi]
    · rw [List.getElem?_eq_none (by simpa using Nat.le_of_not_lt hk)]
      rfl
theorem zwl_D {K : zK} (hI : zInj K) (ct : zE) : va_D (kA K) (zwl K ct) := by
  have key : ∀ (k : Nat) (q : Nat × va_E), (zwl K ct)[k]? = some q → k < kN K ∧ q.1 = kad K k := by
    intro k q h
    have hl : k < kN K := by
      have := (List.getElem?_eq_some_iff.mp h).1
      simpa [zwl] using this
    rw [zwl_at hl] at h
    exact ⟨hl, by rw [← Option.some.inj h]⟩
  refine ⟨fun i j x y hi hj hxy => ?_, fun k q hk => ?_⟩
  · obtain ⟨h1, h2⟩ := key i x hi
    obtain ⟨h3, h4⟩ := key j y hj
    exact hI.1 i j h1 h3 (by rw [← h2, ← h4]; exact hxy)
  · obtain ⟨h1, h2⟩ := key k q hk
    rw [h2]
    exact hI.2 k h1
/-- a world of K -/
def zW (K : zK) (ct : zE) (U : State) : Prop := va_P (kD K) vwCl (zwl K ct) U.heap ∧ va_K (kD K) vwCl (zty K) U ∧ zNest U
theorem zgood {ws : List Cond} (h : ∀ w ∈ ws, w ∈ zTB) : GoodIn zTB ws := fun w hw => ⟨h w hw, good_of_word (zTB_good w (h w hw))⟩
/-- where the machine stands, with all that a row asks of it -/
def zO (K : zK) (X : zX) (cc : ByteArray) (own : String) (ret : Option FieldType) (nL f : Nat) : Prop :=
  X.1.tables.exec = Jvm.exec ∧ X.2.2.2.2.2.2.2.2.1.code = cc ∧ X.2.2.2.2.2.2.2.1.sig.returnType = ret ∧ X.2.2.2.2.2.2.2.2.1.maxLocals = nL ∧ X.2.2.2.1.vm.findClass own = some X.2.2.2.2.1.cls ∧
  (∀ w ∈ zTB, w.before X.2.2.2.2.2.1 X.2.2.2.1 = true) ∧ X.2.2.2.2.2.2.2.1.locks = false ∧ va_K (kD K) vwCl (zty K) X.2.2.2.1 ∧ zNest X.2.2.2.1 ∧ zInj K ∧ f ≤ X.2.2.1.frames ∧ 32 * f ≤ X.2.2.1.locals ∧
  X.2.2.2.2.2.2.2.2.2.2.1 ≤ X.2.2.1.cells ∧ X.2.2.2.2.2.2.2.2.2.2.2 ≤ X.2.2.1.slots
/-- the judgement: from this place, with these locals, this stack and this world, the machine comes to its end -/
def G (K : zK) (X : zX) (nL pc : Nat) (lo : List (Nat × Value)) (st : List Value) (ct : zE) : Prop :=
  ∀ (H : Heap) (locs : List Loc) (ls : Array Slot), va_P (kD K) vwCl (zwl K ct) H → va_S (kA K) X.2.2.2.1.heap H locs → lv_has ls nL lo →
    W X.1 (kl K) X.2.1 X.2.2.1 X.2.2.2.1 X.2.2.2.2.1 X.2.2.2.2.2.1 X.2.2.2.2.2.2.1 X.2.2.2.2.2.2.2.1 X.2.2.2.2.2.2.2.2.1 H locs X.2.2.2.2.2.2.2.2.2.2.1 X.2.2.2.2.2.2.2.2.2.2.2 X.2.2.2.2.2.2.2.2.2.1 (F0 X.2.2.2.2.1 pc ls st)
/-- the locals, one stored: those that it hides go -/
def zst (i : Nat) (v : Value) (lo : List (Nat × Value)) : List (Nat × Value) := (i, v) :: lo.filter (fun q => !(q.1 == i) && !(q.1 + 1 == i && q.2.category == 2))
def zst2 (i : Nat) (v : Value) (lo : List (Nat × Value)) : List (Nat × Value) := (i, v) :: lo.filter (fun q => !(q.1 == i) && (!(q.1 == i + 1) && !(q.1 + 1 == i && q.2.category == 2)))
def zLo (lo : List (Nat × Value)) (i : Nat) (v : Value) : Prop := (i, v) ∈ lo
theorem zLo_get {lo : List (Nat × Value)} {i : Nat} {v : Value} (h : zLo lo i v) {ls : Array Slot} {nL : Nat} (hl : lv_has ls nL lo) : ls[i]? = some (.val v) := hl.2.2 (i, v) h
theorem zLo_0 {i : Nat} {v : Value} {l : List (Nat × Value)} : zLo ((i, v) :: l) i v := List.mem_cons_self
theorem zLo_s {i : Nat} {v : Value} {q : Nat × Value} {l : List (Nat × Value)} (h : zLo l i v) : zLo (q :: l) i v := List.mem_cons_of_mem _ h
theorem G_sub {K : zK} {X : zX} {nL pc : Nat} {lo lo' : List (Nat × Value)} {st : List Value} {ct : zE} (h : ∀ q ∈ lo', q ∈ lo) (k : G K X nL pc lo' st ct) : G K X nL pc lo st ct :=
  fun H locs ls hP hS hl => k H locs ls hP hS ⟨hl.1, hl.2.1, fun q hq => hl.2.2 q (h q hq)⟩
theorem G_ct {K : zK} {X : zX} {nL pc : Nat} {lo : List (Nat × Value)} {st : List Value} {ct ct' : zE} (h : ct = ct') (k : G K X nL pc lo st ct') : G K X nL pc lo st ct := h ▸ k
theorem G_st {K : zK} {X : zX} {nL pc : Nat} {lo : List (Nat × Value)} {st st' : List Value} {ct : zE} (h : st = st') (k : G K X nL pc lo st' ct) : G K X nL pc lo st ct := h ▸ k

theorem r_iconst {K : zK} {X : zX} {cc : ByteArray} {own : String} {ret : Option FieldType} {nL f pc : Nat} {lo : List (Nat × Value)} {st : List Value} {ct : zE} {n : Int} (O : zO K X cc own ret nL f) (hd : decode cc pc = .ok (.iconst n, 1)) (k : G K X nL (pc + 1) lo (.int (iI n) :: st) ct) : G K X nL pc lo st ct := by
  obtain ⟨l, D, A, ad, N, cI, cC, cS⟩ := K
  obtain ⟨p, e, R, s, m, args, below, meth, c, Q, cells, slots⟩ := X
  obtain ⟨hx, hb, hr, hml, hown, hts, hlk, hK, hZ, hI, hf1, hf2, hc1, hc2⟩ := O
  intro H locs ls hP hS hl
  exact lv_iconst hx hb hd rfl (k H locs ls hP hS hl)
theorem r_bipush {K : zK} {X : zX} {cc : ByteArray} {own : String} {ret : Option FieldType} {nL f pc : Nat} {lo : List (Nat × Value)} {st : List Value} {ct : zE} {n : Int} (O : zO K X cc own ret nL f) (hv : (Int8.ofInt n).toInt32 = iI n) (hd : decode cc pc = .ok (.bipush n, 2)) (k : G K X nL (pc + 2) lo (.int (iI n) :: st) ct) : G K X nL pc lo st ct := by
  obtain ⟨l, D, A, ad, N, cI, cC, cS⟩ := K
  obtain ⟨p, e, R, s, m, args, below, meth, c, Q, cells, slots⟩ := X
  obtain ⟨hx, hb, hr, hml, hown, hts, hlk, hK, hZ, hI, hf1, hf2, hc1, hc2⟩ := O
  intro H locs ls hP hS hl
  exact lv_bipush hx hb hd hv (k H locs ls hP hS hl)
theorem r_sipush {K : zK} {X : zX} {cc : ByteArray} {own : String} {ret : Option FieldType} {nL f pc : Nat} {lo : List (Nat × Value)} {st : List Value} {ct : zE} {n : Int} (O : zO K X cc own ret nL f) (hv : (Int16.ofInt n).toInt32 = iI n) (hd : decode cc pc = .ok (.sipush n, 3)) (k : G K X nL (pc + 3) lo (.int (iI n) :: st) ct) : G K X nL pc lo st ct := by
  obtain ⟨l, D, A, ad, N, cI, cC, cS⟩ := K
  obtain ⟨p, e, R, s, m, args, below, meth, c, Q, cells, slots⟩ := X
  obtain ⟨hx, hb, hr, hml, hown, hts, hlk, hK, hZ, hI, hf1, hf2, hc1, hc2⟩ := O
  intro H locs ls hP hS hl
  exact lv_sipush hx hb hd hv (k H locs ls hP hS hl)
theorem r_iload_n {K : zK} {X : zX} {cc : ByteArray} {own : String} {ret : Option FieldType} {nL f pc : Nat} {lo : List (Nat × Value)} {st : List Value} {ct : zE} {q : Fin 4} {i : Nat} {x : Int32} (O : zO K X cc own ret nL f) (hd : decode cc pc = .ok (.iload_n q, 1)) (hi : (q : Nat) = i) (hg : zLo lo i (.int x)) (k : G K X nL (pc + 1) lo (.int x :: st) ct) : G K X nL pc lo st ct := by
  obtain ⟨l, D, A, ad, N, cI, cC, cS⟩ := K
  obtain ⟨p, e, R, s, m, args, below, meth, c, Q, cells, slots⟩ := X
  obtain ⟨hx, hb, hr, hml, hown, hts, hlk, hK, hZ, hI, hf1, hf2, hc1, hc2⟩ := O
  intro H locs ls hP hS hl
  exact lv_iload_n hx hb hd hi (zLo_get hg hl) (k H locs ls hP hS hl)
theorem r_iload {K : zK} {X : zX} {cc : ByteArray} {own : String} {ret : Option FieldType} {nL f pc : Nat} {lo : List (Nat × Value)} {st : List Value} {ct : zE} {i : Nat} {x : Int32} (O : zO K X cc own ret nL f) (hd : decode cc pc = .ok (.iload i, 2)) (hg : zLo lo i (.int x)) (k : G K X nL (pc + 2) lo (.int x :: st) ct) : G K X nL pc lo st ct := by
  obtain ⟨l, D, A, ad, N, cI, cC, cS⟩ := K
  obtain ⟨p, e, R, s, m, args, below, meth, c, Q, cells, slots⟩ := X
  obtain ⟨hx, hb, hr, hml, hown, hts, hlk, hK, hZ, hI, hf1, hf2, hc1, hc2⟩ := O
  intro H locs ls hP hS hl
  exact lv_iload hx hb hd (zLo_get hg hl) (k H locs ls hP hS hl)
theorem r_istore_n {K : zK} {X : zX} {cc : ByteArray} {own : String} {ret : Option FieldType} {nL f pc : Nat} {lo : List (Nat × Value)} {st : List Value} {ct : zE} {q : Fin 4} {i : Nat} {x : Int32} {lo2 : List (Nat × Value)} (O : zO K X cc own ret nL f) (hd : decode cc pc = .ok (.istore_n q, 1)) (hi : (q : Nat) = i) (hn : i < nL) (hg : zst i (.int x) lo = lo2) (k : G K X nL (pc + 1) lo2 st ct) : G K X nL pc lo (.int x :: st) ct := by
  obtain ⟨l, D, A, ad, N, cI, cC, cS⟩ := K
  obtain ⟨p, e, R, s, m, args, below, meth, c, Q, cells, slots⟩ := X
  obtain ⟨hx, hb, hr, hml, hown, hts, hlk, hK, hZ, hI, hf1, hf2, hc1, hc2⟩ := O
  intro H locs ls hP hS hl
  exact lv_istore_n hx hb hd hi hl hn hg (fun ls2 hl2 => k H locs ls2 hP hS hl2)
theorem r_istore {K : zK} {X : zX} {cc : ByteArray} {own : String} {ret : Option FieldType} {nL f pc : Nat} {lo : List (Nat × Value)} {st : List Value} {ct : zE} {i : Nat} {x : Int32} {lo2 : List (Nat × Value)} (O : zO K X cc own ret nL f) (hd : decode cc pc = .ok (.istore i, 2)) (hn : i < nL) (hg : zst i (.int x) lo = lo2) (k : G K X nL (pc + 2) lo2 st ct) : G K X nL pc lo (.int x :: st) ct := by
  obtain ⟨l, D, A, ad, N, cI, cC, cS⟩ := K
  obtain ⟨p, e, R, s, m, args, below, meth, c, Q, cells, slots⟩ := X
  obtain ⟨hx, hb, hr, hml, hown, hts, hlk, hK, hZ, hI, hf1, hf2, hc1, hc2⟩ := O
  intro H locs ls hP hS hl
  exact lv_istore hx hb hd hl hn hg (fun ls2 hl2 => k H locs ls2 hP hS hl2)
theorem r_aload_n {K : zK} {X : zX} {cc : ByteArray} {own : String} {ret : Option FieldType} {nL f pc : Nat} {lo : List (Nat × Value)} {st : List Value} {ct : zE} {q : Fin 4} {i : Nat} {x : Nat} (O : zO K X cc own ret nL f) (hd : decode cc pc = .ok (.aload_n q, 1)) (hi : (q : Nat) = i) (hg : zLo lo i (.ref x)) (k : G K X nL (pc + 1) lo (.ref x :: st) ct) : G K X nL pc lo st ct := by
  obtain ⟨l, D, A, ad, N, cI, cC, cS⟩ := K
  obtain ⟨p, e, R, s, m, args, below, meth, c, Q, cells, slots⟩ := X
  obtain ⟨hx, hb, hr, hml, hown, hts, hlk, hK, hZ, hI, hf1, hf2, hc1, hc2⟩ := O
  intro H locs ls hP hS hl
  exact lv_aload_n hx hb hd hi (zLo_get hg hl) (k H locs ls hP hS hl)
theorem r_aload {K : zK} {X : zX} {cc : ByteArray} {own : String} {ret : Option FieldType} {nL f pc : Nat} {lo : List (Nat × Value)} {st : List Value} {ct : zE} {i : Nat} {x : Nat} (O : zO K X cc own ret nL f) (hd : decode cc pc = .ok (.aload i, 2)) (hg : zLo lo i (.ref x)) (k : G K X nL (pc + 2) lo (.ref x :: st) ct) : G K X nL pc lo st ct := by
  obtain ⟨l, D, A, ad, N, cI, cC, cS⟩ := K
  obtain ⟨p, e, R, s, m, args, below, meth, c, Q, cells, slots⟩ := X
  obtain ⟨hx, hb, hr, hml, hown, hts, hlk, hK, hZ, hI, hf1, hf2, hc1, hc2⟩ := O
  intro H locs ls hP hS hl
  exact lv_aload hx hb hd (zLo_get hg hl) (k H locs ls hP hS hl)
theorem r_astore_n {K : zK} {X : zX} {cc : ByteArray} {own : String} {ret : Option FieldType} {nL f pc : Nat} {lo : List (Nat × Value)} {st : List Value} {ct : zE} {q : Fin 4} {i : Nat} {x : Nat} {lo2 : List (Nat × Value)} (O : zO K X cc own ret nL f) (hd : decode cc pc = .ok (.astore_n q, 1)) (hi : (q : Nat) = i) (hn : i < nL) (hg : zst i (.ref x) lo = lo2) (k : G K X nL (pc + 1) lo2 st ct) : G K X nL pc lo (.ref x :: st) ct := by
  obtain ⟨l, D, A, ad, N, cI, cC, cS⟩ := K
  obtain ⟨p, e, R, s, m, args, below, meth, c, Q, cells, slots⟩ := X
  obtain ⟨hx, hb, hr, hml, hown, hts, hlk, hK, hZ, hI, hf1, hf2, hc1, hc2⟩ := O
  intro H locs ls hP hS hl
  exact lv_astore_n hx hb hd hi hl hn hg (fun ls2 hl2 => k H locs ls2 hP hS hl2)
theorem r_astore {K : zK} {X : zX} {cc : ByteArray} {own : String} {ret : Option FieldType} {nL f pc : Nat} {lo : List (Nat × Value)} {st : List Value} {ct : zE} {i : Nat} {x : Nat} {lo2 : List (Nat × Value)} (O : zO K X cc own ret nL f) (hd : decode cc pc = .ok (.astore i, 2)) (hn : i < nL) (hg : zst i (.ref x) lo = lo2) (k : G K X nL (pc + 2) lo2 st ct) : G K X nL pc lo (.ref x :: st) ct := by
  obtain ⟨l, D, A, ad, N, cI, cC, cS⟩ := K
  obtain ⟨p, e, R, s, m, args, below, meth, c, Q, cells, slots⟩ := X
  obtain ⟨hx, hb, hr, hml, hown, hts, hlk, hK, hZ, hI, hf1, hf2, hc1, hc2⟩ := O
  intro H locs ls hP hS hl
  exact lv_astore hx hb hd hl hn hg (fun ls2 hl2 => k H locs ls2 hP hS hl2)
theorem r_lload_n {K : zK} {X : zX} {cc : ByteArray} {own : String} {ret : Option FieldType} {nL f pc : Nat} {lo : List (Nat × Value)} {st : List Value} {ct : zE} {q : Fin 4} {i : Nat} {x : Int64} (O : zO K X cc own ret nL f) (hd : decode cc pc = .ok (.lload_n q, 1)) (hi : (q : Nat) = i) (hg : zLo lo i (.long x)) (k : G K X nL (pc + 1) lo (.long x :: st) ct) : G K X nL pc lo st ct := by
  obtain ⟨l, D, A, ad, N, cI, cC, cS⟩ := K
  obtain ⟨p, e, R, s, m, args, below, meth, c, Q, cells, slots⟩ := X
  obtain ⟨hx, hb, hr, hml, hown, hts, hlk, hK, hZ, hI, hf1, hf2, hc1, hc2⟩ := O
  intro H locs ls hP hS hl
  exact lv_lload_n hx hb hd hi (zLo_get hg hl) (k H locs ls hP hS hl)
theorem r_lload {K : zK} {X : zX} {cc : ByteArray} {own : String} {ret : Option FieldType} {nL f pc : Nat} {lo : List (Nat × Value)} {st : List Value} {ct : zE} {i : Nat} {x : Int64} (O : zO K X cc own ret nL f) (hd : decode cc pc = .ok (.lload i, 2)) (hg : zLo lo i (.long x)) (k : G K X nL (pc + 2) lo (.long x :: st) ct) : G K X nL pc lo st ct := by
  obtain ⟨l, D, A, ad, N, cI, cC, cS⟩ := K
  obtain ⟨p, e, R, s, m, args, below, meth, c, Q, cells, slots⟩ := X
  obtain ⟨hx, hb, hr, hml, hown, hts, hlk, hK, hZ, hI, hf1, hf2, hc1, hc2⟩ := O
  intro H locs ls hP hS hl
  exact lv_lload hx hb hd (zLo_get hg hl) (k H locs ls hP hS hl)
theorem r_lstore_n {K : zK} {X : zX} {cc : ByteArray} {own : String} {ret : Option FieldType} {nL f pc : Nat} {lo : List (Nat × Value)} {st : List Value} {ct : zE} {q : Fin 4} {i : Nat} {x : Int64} {lo2 : List (Nat × Value)} (O : zO K X cc own ret nL f) (hd : decode cc pc = .ok (.lstore_n q, 1)) (hi : (q : Nat) = i) (hn : i + 1 < nL) (hg : zst2 i (.long x) lo = lo2) (k : G K X nL (pc + 1) lo2 st ct) : G K X nL pc lo (.long x :: st) ct := by
  obtain ⟨l, D, A, ad, N, cI, cC, cS⟩ := K
  obtain ⟨p, e, R, s, m, args, below, meth, c, Q, cells, slots⟩ := X
  obtain ⟨hx, hb, hr, hml, hown, hts, hlk, hK, hZ, hI, hf1, hf2, hc1, hc2⟩ := O
  intro H locs ls hP hS hl
  exact lv_lstore_n hx hb hd hi hl hn hg (fun ls2 hl2 => k H locs ls2 hP hS hl2)
theorem r_lstore {K : zK} {X : zX} {cc : ByteArray} {own : String} {ret : Option FieldType} {nL f pc : Nat} {lo : List (Nat × Value)} {st : List Value} {ct : zE} {i : Nat} {x : Int64} {lo2 : List (Nat × Value)} (O : zO K X cc own ret nL f) (hd : decode cc pc = .ok (.lstore i, 2)) (hn : i + 1 < nL) (hg : zst2 i (.long x) lo = lo2) (k : G K X nL (pc + 2) lo2 st ct) : G K X nL pc lo (.long x :: st) ct := by
  obtain ⟨l, D, A, ad, N, cI, cC, cS⟩ := K
  obtain ⟨p, e, R, s, m, args, below, meth, c, Q, cells, slots⟩ := X
  obtain ⟨hx, hb, hr, hml, hown, hts, hlk, hK, hZ, hI, hf1, hf2, hc1, hc2⟩ := O
  intro H locs ls hP hS hl
  exact lv_lstore hx hb hd hl hn hg (fun ls2 hl2 => k H locs ls2 hP hS hl2)
theorem r_iinc {K : zK} {X : zX} {cc : ByteArray} {own : String} {ret : Option FieldType} {nL f pc : Nat} {lo : List (Nat × Value)} {st : List Value} {ct : zE} {i : Nat} {n x : Int} {lo2 : List (Nat × Value)} (O : zO K X cc own ret nL f) (hd : decode cc pc = .ok (.iinc i n, 3)) (hn : i < nL) (hg : zLo lo i (.int (iI x))) (hh : zst i (.int (iI (x + n))) lo = lo2) (k : G K X nL (pc + 3) lo2 st ct) : G K X nL pc lo st ct := by
  obtain ⟨l, D, A, ad, N, cI, cC, cS⟩ := K
  obtain ⟨p, e, R, s, m, args, below, meth, c, Q, cells, slots⟩ := X
  obtain ⟨hx, hb, hr, hml, hown, hts, hlk, hK, hZ, hI, hf1, hf2, hc1, hc2⟩ := O
  intro H locs ls hP hS hl
  obtain ⟨k2, h2⟩ := List.getElem?_of_mem hg
  exact lv_iinc hx hb hd hl h2 (show iI x + iI n = iI (x + n) from iI_add x n) hn hh (fun ls2 hl2 => k H locs ls2 hP hS hl2)
theorem r_iadd {K : zK} {X : zX} {cc : ByteArray} {own : String} {ret : Option FieldType} {nL f pc : Nat} {lo : List (Nat × Value)} {st : List Value} {ct : zE} {x y : Int} (O : zO K X cc own ret nL f) (hd : decode cc pc = .ok (.iadd, 1)) (k : G K X nL (pc + 1) lo (.int (iI (x + y)) :: st) ct) : G K X nL pc lo (.int (iI y) :: .int (iI x) :: st) ct := by
  obtain ⟨l, D, A, ad, N, cI, cC, cS⟩ := K
  obtain ⟨p, e, R, s, m, args, below, meth, c, Q, cells, slots⟩ := X
  obtain ⟨hx, hb, hr, hml, hown, hts, hlk, hK, hZ, hI, hf1, hf2, hc1, hc2⟩ := O
  intro H locs ls hP hS hl
  refine lv_iadd hx hb hd ?_
  rw [iI_add]
  exact (k H locs ls hP hS hl)
theorem r_isub {K : zK} {X : zX} {cc : ByteArray} {own : String} {ret : Option FieldType} {nL f pc : Nat} {lo : List (Nat × Value)} {st : List Value} {ct : zE} {x y : Int} (O : zO K X cc own ret nL f) (hd : decode cc pc = .ok (.isub, 1)) (k : G K X nL (pc + 1) lo (.int (iI (x - y)) :: st) ct) : G K X nL pc lo (.int (iI y) :: .int (iI x) :: st) ct := by
  obtain ⟨l, D, A, ad, N, cI, cC, cS⟩ := K
  obtain ⟨p, e, R, s, m, args, below, meth, c, Q, cells, slots⟩ := X
  obtain ⟨hx, hb, hr, hml, hown, hts, hlk, hK, hZ, hI, hf1, hf2, hc1, hc2⟩ := O
  intro H locs ls hP hS hl
  refine lv_isub hx hb hd ?_
  rw [iI_sub]
  exact (k H locs ls hP hS hl)
theorem r_imul {K : zK} {X : zX} {cc : ByteArray} {own : String} {ret : Option FieldType} {nL f pc : Nat} {lo : List (Nat × Value)} {st : List Value} {ct : zE} {x y : Int} (O : zO K X cc own ret nL f) (hd : decode cc pc = .ok (.imul, 1)) (k : G K X nL (pc + 1) lo (.int (iI (x * y)) :: st) ct) : G K X nL pc lo (.int (iI y) :: .int (iI x) :: st) ct := by
  obtain ⟨l, D, A, ad, N, cI, cC, cS⟩ := K
  obtain ⟨p, e, R, s, m, args, below, meth, c, Q, cells, slots⟩ := X
  obtain ⟨hx, hb, hr, hml, hown, hts, hlk, hK, hZ, hI, hf1, hf2, hc1, hc2⟩ := O
  intro H locs ls hP hS hl
  refine lv_imul hx hb hd ?_
  rw [iI_mul]
  exact (k H locs ls hP hS hl)
theorem r_idiv {K : zK} {X : zX} {cc : ByteArray} {own : String} {ret : Option FieldType} {nL f pc : Nat} {lo : List (Nat × Value)} {st : List Value} {ct : zE} {x y : Int32} {z : Int} (O : zO K X cc own ret nL f) (hne : ¬ y = 0) (hz : x / y = iI z) (hd : decode cc pc = .ok (.idiv, 1)) (k : G K X nL (pc + 1) lo (.int (iI z) :: st) ct) : G K X nL pc lo (.int y :: .int x :: st) ct := by
  obtain ⟨l, D, A, ad, N, cI, cC, cS⟩ := K
  obtain ⟨p, e, R, s, m, args, below, meth, c, Q, cells, slots⟩ := X
  obtain ⟨hx, hb, hr, hml, hown, hts, hlk, hK, hZ, hI, hf1, hf2, hc1, hc2⟩ := O
  intro H locs ls hP hS hl
  refine lv_idiv hx hb hd hne ?_
  first | (rw [hz]; exact (k H locs ls hP hS hl)) | (have h9 := (k H locs ls hP hS hl); rw [← hz] at h9; exact h9)
theorem r_irem {K : zK} {X : zX} {cc : ByteArray} {own : String} {ret : Option FieldType} {nL f pc : Nat} {lo : List (Nat × Value)} {st : List Value} {ct : zE} {x y : Int32} {z : Int} (O : zO K X cc own ret nL f) (hne : ¬ y = 0) (hz : x - x / y * y = iI z) (hd : decode cc pc = .ok (.irem, 1)) (k : G K X nL (pc + 1) lo (.int (iI z) :: st) ct) : G K X nL pc lo (.int y :: .int x :: st) ct := by
  obtain ⟨l, D, A, ad, N, cI, cC, cS⟩ := K
  obtain ⟨p, e, R, s, m, args, below, meth, c, Q, cells, slots⟩ := X
  obtain ⟨hx, hb, hr, hml, hown, hts, hlk, hK, hZ, hI, hf1, hf2, hc1, hc2⟩ := O
  intro H locs ls hP hS hl
  refine lv_irem hx hb hd hne ?_
  first | (rw [hz]; exact (k H locs ls hP hS hl)) | (have h9 := (k H locs ls hP hS hl); rw [← hz] at h9; exact h9)
theorem r_iand {K : zK} {X : zX} {cc : ByteArray} {own : String} {ret : Option FieldType} {nL f pc : Nat} {lo : List (Nat × Value)} {st : List Value} {ct : zE} {x y : Int32} {z : Int} (O : zO K X cc own ret nL f) (hz : x &&& y = iI z) (hd : decode cc pc = .ok (.iand, 1)) (k : G K X nL (pc + 1) lo (.int (iI z) :: st) ct) : G K X nL pc lo (.int y :: .int x :: st) ct := by
  obtain ⟨l, D, A, ad, N, cI, cC, cS⟩ := K
  obtain ⟨p, e, R, s, m, args, below, meth, c, Q, cells, slots⟩ := X
  obtain ⟨hx, hb, hr, hml, hown, hts, hlk, hK, hZ, hI, hf1, hf2, hc1, hc2⟩ := O
  intro H locs ls hP hS hl
  refine lv_iand hx hb hd ?_
  first | (rw [hz]; exact (k H locs ls hP hS hl)) | (have h9 := (k H locs ls hP hS hl); rw [← hz] at h9; exact h9)
theorem r_ior {K : zK} {X : zX} {cc : ByteArray} {own : String} {ret : Option FieldType} {nL f pc : Nat} {lo : List (Nat × Value)} {st : List Value} {ct : zE} {x y : Int32} {z : Int} (O : zO K X cc own ret nL f) (hz : x ||| y = iI z) (hd : decode cc pc = .ok (.ior, 1)) (k : G K X nL (pc + 1) lo (.int (iI z) :: st) ct) : G K X nL pc lo (.int y :: .int x :: st) ct := by
  obtain ⟨l, D, A, ad, N, cI, cC, cS⟩ := K
  obtain ⟨p, e, R, s, m, args, below, meth, c, Q, cells, slots⟩ := X
  obtain ⟨hx, hb, hr, hml, hown, hts, hlk, hK, hZ, hI, hf1, hf2, hc1, hc2⟩ := O
  intro H locs ls hP hS hl
  refine lv_ior hx hb hd ?_
  first | (rw [hz]; exact (k H locs ls hP hS hl)) | (have h9 := (k H locs ls hP hS hl); rw [← hz] at h9; exact h9)
theorem r_ishl {K : zK} {X : zX} {cc : ByteArray} {own : String} {ret : Option FieldType} {nL f pc : Nat} {lo : List (Nat × Value)} {st : List Value} {ct : zE} {x y : Int32} {z : Int} (O : zO K X cc own ret nL f) (hz : x <<< (y &&& 31) = iI z) (hd : decode cc pc = .ok (.ishl, 1)) (k : G K X nL (pc + 1) lo (.int (iI z) :: st) ct) : G K X nL pc lo (.int y :: .int x :: st) ct := by
  obtain ⟨l, D, A, ad, N, cI, cC, cS⟩ := K
  obtain ⟨p, e, R, s, m, args, below, meth, c, Q, cells, slots⟩ := X
  obtain ⟨hx, hb, hr, hml, hown, hts, hlk, hK, hZ, hI, hf1, hf2, hc1, hc2⟩ := O
  intro H locs ls hP hS hl
  refine lv_ishl hx hb hd ?_
  first | (rw [hz]; exact (k H locs ls hP hS hl)) | (have h9 := (k H locs ls hP hS hl); rw [← hz] at h9; exact h9)
theorem r_ishr {K : zK} {X : zX} {cc : ByteArray} {own : String} {ret : Option FieldType} {nL f pc : Nat} {lo : List (Nat × Value)} {st : List Value} {ct : zE} {x y : Int32} {z : Int} (O : zO K X cc own ret nL f) (hz : x >>> (y &&& 31) = iI z) (hd : decode cc pc = .ok (.ishr, 1)) (k : G K X nL (pc + 1) lo (.int (iI z) :: st) ct) : G K X nL pc lo (.int y :: .int x :: st) ct := by
  obtain ⟨l, D, A, ad, N, cI, cC, cS⟩ := K
  obtain ⟨p, e, R, s, m, args, below, meth, c, Q, cells, slots⟩ := X
  obtain ⟨hx, hb, hr, hml, hown, hts, hlk, hK, hZ, hI, hf1, hf2, hc1, hc2⟩ := O
  intro H locs ls hP hS hl
  refine lv_ishr hx hb hd ?_
  first | (rw [hz]; exact (k H locs ls hP hS hl)) | (have h9 := (k H locs ls hP hS hl); rw [← hz] at h9; exact h9)
theorem r_i2c {K : zK} {X : zX} {cc : ByteArray} {own : String} {ret : Option FieldType} {nL f pc : Nat} {lo : List (Nat × Value)} {st : List Value} {ct : zE} {x : Int32} {z : Int} (O : zO K X cc own ret nL f) (hz : (x.toUInt32 % 65536).toInt32 = iI z) (hd : decode cc pc = .ok (.i2c, 1)) (k : G K X nL (pc + 1) lo (.int (iI z) :: st) ct) : G K X nL pc lo (.int x :: st) ct := by
  obtain ⟨l, D, A, ad, N, cI, cC, cS⟩ := K
  obtain ⟨p, e, R, s, m, args, below, meth, c, Q, cells, slots⟩ := X
  obtain ⟨hx, hb, hr, hml, hown, hts, hlk, hK, hZ, hI, hf1, hf2, hc1, hc2⟩ := O
  intro H locs ls hP hS hl
  exact lv_i2c hx hb hd hz (k H locs ls hP hS hl)
theorem r_iushr {K : zK} {X : zX} {cc : ByteArray} {own : String} {ret : Option FieldType} {nL f pc : Nat} {lo : List (Nat × Value)} {st : List Value} {ct : zE} {x y : Int32} {z : Int} (O : zO K X cc own ret nL f) (hz : (x.toUInt32 >>> (y.toUInt32 &&& Int32.toUInt32 31)).toInt32 = iI z) (hd : decode cc pc = .ok (.iushr, 1)) (k : G K X nL (pc + 1) lo (.int (iI z) :: st) ct) : G K X nL pc lo (.int y :: .int x :: st) ct := by
  obtain ⟨l, D, A, ad, N, cI, cC, cS⟩ := K
  obtain ⟨p, e, R, s, m, args, below, meth, c, Q, cells, slots⟩ := X
  obtain ⟨hx, hb, hr, hml, hown, hts, hlk, hK, hZ, hI, hf1, hf2, hc1, hc2⟩ := O
  intro H locs ls hP hS hl
  exact lv_iushr hx hb hd hz (k H locs ls hP hS hl)
theorem r_i2l {K : zK} {X : zX} {cc : ByteArray} {own : String} {ret : Option FieldType} {nL f pc : Nat} {lo : List (Nat × Value)} {st : List Value} {ct : zE} {x : Int32} {v : Int64} (O : zO K X cc own ret nL f) (hz : x.toInt64 = v) (hd : decode cc pc = .ok (.i2l, 1)) (k : G K X nL (pc + 1) lo (.long v :: st) ct) : G K X nL pc lo (.int x :: st) ct := by
  obtain ⟨l, D, A, ad, N, cI, cC, cS⟩ := K
  obtain ⟨p, e, R, s, m, args, below, meth, c, Q, cells, slots⟩ := X
  obtain ⟨hx, hb, hr, hml, hown, hts, hlk, hK, hZ, hI, hf1, hf2, hc1, hc2⟩ := O
  intro H locs ls hP hS hl
  exact lv_i2l hx hb hd hz (k H locs ls hP hS hl)
theorem r_l2i {K : zK} {X : zX} {cc : ByteArray} {own : String} {ret : Option FieldType} {nL f pc : Nat} {lo : List (Nat × Value)} {st : List Value} {ct : zE} {x : Int64} {z : Int} (O : zO K X cc own ret nL f) (hz : x.toInt32 = iI z) (hd : decode cc pc = .ok (.l2i, 1)) (k : G K X nL (pc + 1) lo (.int (iI z) :: st) ct) : G K X nL pc lo (.long x :: st) ct := by
  obtain ⟨l, D, A, ad, N, cI, cC, cS⟩ := K
  obtain ⟨p, e, R, s, m, args, below, meth, c, Q, cells, slots⟩ := X
  obtain ⟨hx, hb, hr, hml, hown, hts, hlk, hK, hZ, hI, hf1, hf2, hc1, hc2⟩ := O
  intro H locs ls hP hS hl
  exact lv_l2i hx hb hd hz (k H locs ls hP hS hl)
theorem r_ladd {K : zK} {X : zX} {cc : ByteArray} {own : String} {ret : Option FieldType} {nL f pc : Nat} {lo : List (Nat × Value)} {st : List Value} {ct : zE} {x y v : Int64} (O : zO K X cc own ret nL f) (hz : x + y = v) (hd : decode cc pc = .ok (.ladd, 1)) (k : G K X nL (pc + 1) lo (.long v :: st) ct) : G K X nL pc lo (.long y :: .long x :: st) ct := by
  obtain ⟨l, D, A, ad, N, cI, cC, cS⟩ := K
  obtain ⟨p, e, R, s, m, args, below, meth, c, Q, cells, slots⟩ := X
  obtain ⟨hx, hb, hr, hml, hown, hts, hlk, hK, hZ, hI, hf1, hf2, hc1, hc2⟩ := O
  intro H locs ls hP hS hl
  refine lv_ladd hx hb hd ?_
  rw [hz]
  exact (k H locs ls hP hS hl)
theorem r_lmul {K : zK} {X : zX} {cc : ByteArray} {own : String} {ret : Option FieldType} {nL f pc : Nat} {lo : List (Nat × Value)} {st : List Value} {ct : zE} {x y v : Int64} (O : zO K X cc own ret nL f) (hz : x * y = v) (hd : decode cc pc = .ok (.lmul, 1)) (k : G K X nL (pc + 1) lo (.long v :: st) ct) : G K X nL pc lo (.long y :: .long x :: st) ct := by
  obtain ⟨l, D, A, ad, N, cI, cC, cS⟩ := K
  obtain ⟨p, e, R, s, m, args, below, meth, c, Q, cells, slots⟩ := X
  obtain ⟨hx, hb, hr, hml, hown, hts, hlk, hK, hZ, hI, hf1, hf2, hc1, hc2⟩ := O
  intro H locs ls hP hS hl
  refine lv_lmul hx hb hd ?_
  rw [hz]
  exact (k H locs ls hP hS hl)
theorem r_ldiv {K : zK} {X : zX} {cc : ByteArray} {own : String} {ret : Option FieldType} {nL f pc : Nat} {lo : List (Nat × Value)} {st : List Value} {ct : zE} {x y v : Int64} (O : zO K X cc own ret nL f) (hne : ¬ y = 0) (hz : x / y = v) (hd : decode cc pc = .ok (.ldiv, 1)) (k : G K X nL (pc + 1) lo (.long v :: st) ct) : G K X nL pc lo (.long y :: .long x :: st) ct := by
  obtain ⟨l, D, A, ad, N, cI, cC, cS⟩ := K
  obtain ⟨p, e, R, s, m, args, below, meth, c, Q, cells, slots⟩ := X
  obtain ⟨hx, hb, hr, hml, hown, hts, hlk, hK, hZ, hI, hf1, hf2, hc1, hc2⟩ := O
  intro H locs ls hP hS hl
  refine lv_ldiv hx hb hd hne ?_
  first | (rw [hz]; exact (k H locs ls hP hS hl)) | (have h9 := (k H locs ls hP hS hl); rw [← hz] at h9; exact h9)
theorem r_lrem {K : zK} {X : zX} {cc : ByteArray} {own : String} {ret : Option FieldType} {nL f pc : Nat} {lo : List (Nat × Value)} {st : List Value} {ct : zE} {x y v : Int64} (O : zO K X cc own ret nL f) (hne : ¬ y = 0) (hz : x - x / y * y = v) (hd : decode cc pc = .ok (.lrem, 1)) (k : G K X nL (pc + 1) lo (.long v :: st) ct) : G K X nL pc lo (.long y :: .long x :: st) ct := by
  obtain ⟨l, D, A, ad, N, cI, cC, cS⟩ := K
  obtain ⟨p, e, R, s, m, args, below, meth, c, Q, cells, slots⟩ := X
  obtain ⟨hx, hb, hr, hml, hown, hts, hlk, hK, hZ, hI, hf1, hf2, hc1, hc2⟩ := O
  intro H locs ls hP hS hl
  refine lv_lrem hx hb hd hne ?_
  first | (rw [hz]; exact (k H locs ls hP hS hl)) | (have h9 := (k H locs ls hP hS hl); rw [← hz] at h9; exact h9)
theorem r_lconst {K : zK} {X : zX} {cc : ByteArray} {own : String} {ret : Option FieldType} {nL f pc : Nat} {lo : List (Nat × Value)} {st : List Value} {ct : zE} {n : Fin 2} {v : Int64} (O : zO K X cc own ret nL f) (hv : Int64.ofNat (n : Nat) = v) (hd : decode cc pc = .ok (.lconst n, 1)) (k : G K X nL (pc + 1) lo (.long v :: st) ct) : G K X nL pc lo st ct := by
  obtain ⟨l, D, A, ad, N, cI, cC, cS⟩ := K
  obtain ⟨p, e, R, s, m, args, below, meth, c, Q, cells, slots⟩ := X
  obtain ⟨hx, hb, hr, hml, hown, hts, hlk, hK, hZ, hI, hf1, hf2, hc1, hc2⟩ := O
  intro H locs ls hP hS hl
  exact lv_lconst hx hb hd hv (k H locs ls hP hS hl)
theorem r_dup {K : zK} {X : zX} {cc : ByteArray} {own : String} {ret : Option FieldType} {nL f pc : Nat} {lo : List (Nat × Value)} {st : List Value} {ct : zE} {v : Value} (O : zO K X cc own ret nL f) (hv : v.category = 1) (hd : decode cc pc = .ok (.dup, 1)) (k : G K X nL (pc + 1) lo (v :: v :: st) ct) : G K X nL pc lo (v :: st) ct := by
  obtain ⟨l, D, A, ad, N, cI, cC, cS⟩ := K
  obtain ⟨p, e, R, s, m, args, below, meth, c, Q, cells, slots⟩ := X
  obtain ⟨hx, hb, hr, hml, hown, hts, hlk, hK, hZ, hI, hf1, hf2, hc1, hc2⟩ := O
  intro H locs ls hP hS hl
  exact lv_dup hx hb hd hv (k H locs ls hP hS hl)
theorem r_pop {K : zK} {X : zX} {cc : ByteArray} {own : String} {ret : Option FieldType} {nL f pc : Nat} {lo : List (Nat × Value)} {st : List Value} {ct : zE} {v : Value} (O : zO K X cc own ret nL f) (hv : v.category = 1) (hd : decode cc pc = .ok (.pop, 1)) (k : G K X nL (pc + 1) lo st ct) : G K X nL pc lo (v :: st) ct := by
  obtain ⟨l, D, A, ad, N, cI, cC, cS⟩ := K
  obtain ⟨p, e, R, s, m, args, below, meth, c, Q, cells, slots⟩ := X
  obtain ⟨hx, hb, hr, hml, hown, hts, hlk, hK, hZ, hI, hf1, hf2, hc1, hc2⟩ := O
  intro H locs ls hP hS hl
  exact lv_pop hx hb hd hv (k H locs ls hP hS hl)
theorem r_dup2 {K : zK} {X : zX} {cc : ByteArray} {own : String} {ret : Option FieldType} {nL f pc : Nat} {lo : List (Nat × Value)} {st : List Value} {ct : zE} {v u : Value} (O : zO K X cc own ret nL f) (hv : v.category = 1) (hu : u.category = 1) (hd : decode cc pc = .ok (.dup2, 1)) (k : G K X nL (pc + 1) lo (v :: u :: v :: u :: st) ct) : G K X nL pc lo (v :: u :: st) ct := by
  obtain ⟨l, D, A, ad, N, cI, cC, cS⟩ := K
  obtain ⟨p, e, R, s, m, args, below, meth, c, Q, cells, slots⟩ := X
  obtain ⟨hx, hb, hr, hml, hown, hts, hlk, hK, hZ, hI, hf1, hf2, hc1, hc2⟩ := O
  intro H locs ls hP hS hl
  exact lv_dup2_11 hx hb hd hv hu (k H locs ls hP hS hl)
theorem r_icmp_eq {K : zK} {X : zX} {cc : ByteArray} {own : String} {ret : Option FieldType} {nL f pc : Nat} {lo : List (Nat × Value)} {st : List Value} {ct : zE} {x y : Int} {off : Int} {tgt : Nat} (O : zO K X cc own ret nL f) (bx : zB x) (bz : zB y) (hd : decode cc pc = .ok (.if_icmp .eq off, 3)) (ht : (pc : Int) + off = (tgt : Int)) (kt : x = y → G K X nL tgt lo st ct) (kf : ¬ (x = y) → G K X nL (pc + 3) lo st ct) : G K X nL pc lo (.int (iI y) :: .int (iI x) :: st) ct := by
  obtain ⟨l, D, A, ad, N, cI, cC, cS⟩ := K
  obtain ⟨p, e, R, s, m, args, below, meth, c, Q, cells, slots⟩ := X
  obtain ⟨hx, hb, hr, hml, hown, hts, hlk, hK, hZ, hI, hf1, hf2, hc1, hc2⟩ := O
  intro H locs ls hP hS hl
  exact lv_icmp_eq hx hb hd ht (fun h => kt ((iI_inj bx bz).mp h) H locs ls hP hS hl) (fun h => kf (fun q => h ((iI_inj bx bz).mpr q)) H locs ls hP hS hl)
theorem r_if_eq {K : zK} {X : zX} {cc : ByteArray} {own : String} {ret : Option FieldType} {nL f pc : Nat} {lo : List (Nat × Value)} {st : List Value} {ct : zE} {x : Int} {off : Int} {tgt : Nat} (O : zO K X cc own ret nL f) (bx : zB x) (hd : decode cc pc = .ok (.ifCond .eq off, 3)) (ht : (pc : Int) + off = (tgt : Int)) (kt : x = 0 → G K X nL tgt lo st ct) (kf : ¬ (x = 0) → G K X nL (pc + 3) lo st ct) : G K X nL pc lo (.int (iI x) :: st) ct := by
  obtain ⟨l, D, A, ad, N, cI, cC, cS⟩ := K
  obtain ⟨p, e, R, s, m, args, below, meth, c, Q, cells, slots⟩ := X
  obtain ⟨hx, hb, hr, hml, hown, hts, hlk, hK, hZ, hI, hf1, hf2, hc1, hc2⟩ := O
  intro H locs ls hP hS hl
  have bz : zB 0 := ⟨by decide, by decide⟩
  exact lv_if_eq hx hb hd ht (fun h => kt ((iI_inj bx bz).mp h) H locs ls hP hS hl) (fun h => kf (fun q => h ((iI_inj bx bz).mpr q)) H locs ls hP hS hl)
theorem r_icmp_ne {K : zK} {X : zX} {cc : ByteArray} {own : String} {ret : Option FieldType} {nL f pc : Nat} {lo : List (Nat × Value)} {st : List Value} {ct : zE} {x y : Int} {off : Int} {tgt : Nat} (O : zO K X cc own ret nL f) (bx : zB x) (bz : zB y) (hd : decode cc pc = .ok (.if_icmp .ne off, 3)) (ht : (pc : Int) + off = (tgt : Int)) (kt : x ≠ y → G K X nL tgt lo st ct) (kf : ¬ (x ≠ y) → G K X nL (pc + 3) lo st ct) : G K X nL pc lo (.int (iI y) :: .int (iI x) :: st) ct := by
  obtain ⟨l, D, A, ad, N, cI, cC, cS⟩ := K
  obtain ⟨p, e, R, s, m, args, below, meth, c, Q, cells, slots⟩ := X
  obtain ⟨hx, hb, hr, hml, hown, hts, hlk, hK, hZ, hI, hf1, hf2, hc1, hc2⟩ := O
  intro H locs ls hP hS hl
  exact lv_icmp_ne hx hb hd ht (fun h => kt (fun q => h (by rw [q])) H locs ls hP hS hl) (fun h => kf (fun q => q ((iI_inj bx bz).mp h)) H locs ls hP hS hl)
theorem r_if_ne {K : zK} {X : zX} {cc : ByteArray} {own : String} {ret : Option FieldType} {nL f pc : Nat} {lo : List (Nat × Value)} {st : List Value} {ct : zE} {x : Int} {off : Int} {tgt : Nat} (O : zO K X cc own ret nL f) (bx : zB x) (hd : decode cc pc = .ok (.ifCond .ne off, 3)) (ht : (pc : Int) + off = (tgt : Int)) (kt : x ≠ 0 → G K X nL tgt lo st ct) (kf : ¬ (x ≠ 0) → G K X nL (pc + 3) lo st ct) : G K X nL pc lo (.int (iI x) :: st) ct := by
  obtain ⟨l, D, A, ad, N, cI, cC, cS⟩ := K
  obtain ⟨p, e, R, s, m, args, below, meth, c, Q, cells, slots⟩ := X
  obtain ⟨hx, hb, hr, hml, hown, hts, hlk, hK, hZ, hI, hf1, hf2, hc1, hc2⟩ := O
  intro H locs ls hP hS hl
  have bz : zB 0 := ⟨by decide, by decide⟩
  exact lv_if_ne hx hb hd ht (fun h => kt (fun q => h (by rw [q]; rfl)) H locs ls hP hS hl) (fun h => kf (fun q => q ((iI_inj bx bz).mp h)) H locs ls hP hS hl)
theorem r_icmp_lt {K : zK} {X : zX} {cc : ByteArray} {own : String} {ret : Option FieldType} {nL f pc : Nat} {lo : List (Nat × Value)} {st : List Value} {ct : zE} {x y : Int} {off : Int} {tgt : Nat} (O : zO K X cc own ret nL f) (bx : zB x) (bz : zB y) (hd : decode cc pc = .ok (.if_icmp .lt off, 3)) (ht : (pc : Int) + off = (tgt : Int)) (kt : x < y → G K X nL tgt lo st ct) (kf : ¬ (x < y) → G K X nL (pc + 3) lo st ct) : G K X nL pc lo (.int (iI y) :: .int (iI x) :: st) ct := by
  obtain ⟨l, D, A, ad, N, cI, cC, cS⟩ := K
  obtain ⟨p, e, R, s, m, args, below, meth, c, Q, cells, slots⟩ := X
  obtain ⟨hx, hb, hr, hml, hown, hts, hlk, hK, hZ, hI, hf1, hf2, hc1, hc2⟩ := O
  intro H locs ls hP hS hl
  exact lv_icmp_lt hx hb hd ht (fun h => kt ((iI_lt bx bz).mp h) H locs ls hP hS hl) (fun h => kf (fun q => h ((iI_lt bx bz).mpr q)) H locs ls hP hS hl)
theorem r_if_lt {K : zK} {X : zX} {cc : ByteArray} {own : String} {ret : Option FieldType} {nL f pc : Nat} {lo : List (Nat × Value)} {st : List Value} {ct : zE} {x : Int} {off : Int} {tgt : Nat} (O : zO K X cc own ret nL f) (bx : zB x) (hd : decode cc pc = .ok (.ifCond .lt off, 3)) (ht : (pc : Int) + off = (tgt : Int)) (kt : x < 0 → G K X nL tgt lo st ct) (kf : ¬ (x < 0) → G K X nL (pc + 3) lo st ct) : G K X nL pc lo (.int (iI x) :: st) ct := by
  obtain ⟨l, D, A, ad, N, cI, cC, cS⟩ := K
  obtain ⟨p, e, R, s, m, args, below, meth, c, Q, cells, slots⟩ := X
  obtain ⟨hx, hb, hr, hml, hown, hts, hlk, hK, hZ, hI, hf1, hf2, hc1, hc2⟩ := O
  intro H locs ls hP hS hl
  have bz : zB 0 := ⟨by decide, by decide⟩
  exact lv_if_lt hx hb hd ht (fun h => kt ((iI_lt bx bz).mp h) H locs ls hP hS hl) (fun h => kf (fun q => h ((iI_lt bx bz).mpr q)) H locs ls hP hS hl)
theorem r_icmp_ge {K : zK} {X : zX} {cc : ByteArray} {own : String} {ret : Option FieldType} {nL f pc : Nat} {lo : List (Nat × Value)} {st : List Value} {ct : zE} {x y : Int} {off : Int} {tgt : Nat} (O : zO K X cc own ret nL f) (bx : zB x) (bz : zB y) (hd : decode cc pc = .ok (.if_icmp .ge off, 3)) (ht : (pc : Int) + off = (tgt : Int)) (kt : y ≤ x → G K X nL tgt lo st ct) (kf : ¬ (y ≤ x) → G K X nL (pc + 3) lo st ct) : G K X nL pc lo (.int (iI y) :: .int (iI x) :: st) ct := by
  obtain ⟨l, D, A, ad, N, cI, cC, cS⟩ := K
  obtain ⟨p, e, R, s, m, args, below, meth, c, Q, cells, slots⟩ := X
  obtain ⟨hx, hb, hr, hml, hown, hts, hlk, hK, hZ, hI, hf1, hf2, hc1, hc2⟩ := O
  intro H locs ls hP hS hl
  exact lv_icmp_ge hx hb hd ht (fun h => kt ((iI_le bz bx).mp h) H locs ls hP hS hl) (fun h => kf (fun q => h ((iI_le bz bx).mpr q)) H locs ls hP hS hl)
theorem r_if_ge {K : zK} {X : zX} {cc : ByteArray} {own : String} {ret : Option FieldType} {nL f pc : Nat} {lo : List (Nat × Value)} {st : List Value} {ct : zE} {x : Int} {off : Int} {tgt : Nat} (O : zO K X cc own ret nL f) (bx : zB x) (hd : decode cc pc = .ok (.ifCond .ge off, 3)) (ht : (pc : Int) + off = (tgt : Int)) (kt : 0 ≤ x → G K X nL tgt lo st ct) (kf : ¬ (0 ≤ x) → G K X nL (pc + 3) lo st ct) : G K X nL pc lo (.int (iI x) :: st) ct := by
  obtain ⟨l, D, A, ad, N, cI, cC, cS⟩ := K
  obtain ⟨p, e, R, s, m, args, below, meth, c, Q, cells, slots⟩ := X
  obtain ⟨hx, hb, hr, hml, hown, hts, hlk, hK, hZ, hI, hf1, hf2, hc1, hc2⟩ := O
  intro H locs ls hP hS hl
  have bz : zB 0 := ⟨by decide, by decide⟩
  exact lv_if_ge hx hb hd ht (fun h => kt ((iI_le bz bx).mp h) H locs ls hP hS hl) (fun h => kf (fun q => h ((iI_le bz bx).mpr q)) H locs ls hP hS hl)
theorem r_icmp_gt {K : zK} {X : zX} {cc : ByteArray} {own : String} {ret : Option FieldType} {nL f pc : Nat} {lo : List (Nat × Value)} {st : List Value} {ct : zE} {x y : Int} {off : Int} {tgt : Nat} (O : zO K X cc own ret nL f) (bx : zB x) (bz : zB y) (hd : decode cc pc = .ok (.if_icmp .gt off, 3)) (ht : (pc : Int) + off = (tgt : Int)) (kt : y < x → G K X nL tgt lo st ct) (kf : ¬ (y < x) → G K X nL (pc + 3) lo st ct) : G K X nL pc lo (.int (iI y) :: .int (iI x) :: st) ct := by
  obtain ⟨l, D, A, ad, N, cI, cC, cS⟩ := K
  obtain ⟨p, e, R, s, m, args, below, meth, c, Q, cells, slots⟩ := X
  obtain ⟨hx, hb, hr, hml, hown, hts, hlk, hK, hZ, hI, hf1, hf2, hc1, hc2⟩ := O
  intro H locs ls hP hS hl
  exact lv_icmp_gt hx hb hd ht (fun h => kt ((iI_lt bz bx).mp h) H locs ls hP hS hl) (fun h => kf (fun q => h ((iI_lt bz bx).mpr q)) H locs ls hP hS hl)
theorem r_if_gt {K : zK} {X : zX} {cc : ByteArray} {own : String} {ret : Option FieldType} {nL f pc : Nat} {lo : List (Nat × Value)} {st : List Value} {ct : zE} {x : Int} {off : Int} {tgt : Nat} (O : zO K X cc own ret nL f) (bx : zB x) (hd : decode cc pc = .ok (.ifCond .gt off, 3)) (ht : (pc : Int) + off = (tgt : Int)) (kt : 0 < x → G K X nL tgt lo st ct) (kf : ¬ (0 < x) → G K X nL (pc + 3) lo st ct) : G K X nL pc lo (.int (iI x) :: st) ct := by
  obtain ⟨l, D, A, ad, N, cI, cC, cS⟩ := K
  obtain ⟨p, e, R, s, m, args, below, meth, c, Q, cells, slots⟩ := X
  obtain ⟨hx, hb, hr, hml, hown, hts, hlk, hK, hZ, hI, hf1, hf2, hc1, hc2⟩ := O
  intro H locs ls hP hS hl
  have bz : zB 0 := ⟨by decide, by decide⟩
  exact lv_if_gt hx hb hd ht (fun h => kt ((iI_lt bz bx).mp h) H locs ls hP hS hl) (fun h => kf (fun q => h ((iI_lt bz bx).mpr q)) H locs ls hP hS hl)
theorem r_icmp_le {K : zK} {X : zX} {cc : ByteArray} {own : String} {ret : Option FieldType} {nL f pc : Nat} {lo : List (Nat × Value)} {st : List Value} {ct : zE} {x y : Int} {off : Int} {tgt : Nat} (O : zO K X cc own ret nL f) (bx : zB x) (bz : zB y) (hd : decode cc pc = .ok (.if_icmp .le off, 3)) (ht : (pc : Int) + off = (tgt : Int)) (kt : x ≤ y → G K X nL tgt lo st ct) (kf : ¬ (x ≤ y) → G K X nL (pc + 3) lo st ct) : G K X nL pc lo (.int (iI y) :: .int (iI x) :: st) ct := by
  obtain ⟨l, D, A, ad, N, cI, cC, cS⟩ := K
  obtain ⟨p, e, R, s, m, args, below, meth, c, Q, cells, slots⟩ := X
  obtain ⟨hx, hb, hr, hml, hown, hts, hlk, hK, hZ, hI, hf1, hf2, hc1, hc2⟩ := O
  intro H locs ls hP hS hl
  exact lv_icmp_le hx hb hd ht (fun h => kt ((iI_le bx bz).mp h) H locs ls hP hS hl) (fun h => kf (fun q => h ((iI_le bx bz).mpr q)) H locs ls hP hS hl)
theorem r_if_le {K : zK} {X : zX} {cc : ByteArray} {own : String} {ret : Option FieldType} {nL f pc : Nat} {lo : List (Nat × Value)} {st : List Value} {ct : zE} {x : Int} {off : Int} {tgt : Nat} (O : zO K X cc own ret nL f) (bx : zB x) (hd : decode cc pc = .ok (.ifCond .le off, 3)) (ht : (pc : Int) + off = (tgt : Int)) (kt : x ≤ 0 → G K X nL tgt lo st ct) (kf : ¬ (x ≤ 0) → G K X nL (pc + 3) lo st ct) : G K X nL pc lo (.int (iI x) :: st) ct := by
  obtain ⟨l, D, A, ad, N, cI, cC, cS⟩ := K
  obtain ⟨p, e, R, s, m, args, below, meth, c, Q, cells, slots⟩ := X
  obtain ⟨hx, hb, hr, hml, hown, hts, hlk, hK, hZ, hI, hf1, hf2, hc1, hc2⟩ := O
  intro H locs ls hP hS hl
  have bz : zB 0 := ⟨by decide, by decide⟩
  exact lv_if_le hx hb hd ht (fun h => kt ((iI_le bx bz).mp h) H locs ls hP hS hl) (fun h => kf (fun q => h ((iI_le bx bz).mpr q)) H locs ls hP hS hl)
theorem r_goto {K : zK} {X : zX} {cc : ByteArray} {own : String} {ret : Option FieldType} {nL f pc : Nat} {lo : List (Nat × Value)} {st : List Value} {ct : zE} {off : Int} {tgt : Nat} (O : zO K X cc own ret nL f) (hd : decode cc pc = .ok (.goto off, 3)) (ht : (pc : Int) + off = (tgt : Int)) (k : G K X nL tgt lo st ct) : G K X nL pc lo st ct := by
  obtain ⟨l, D, A, ad, N, cI, cC, cS⟩ := K
  obtain ⟨p, e, R, s, m, args, below, meth, c, Q, cells, slots⟩ := X
  obtain ⟨hx, hb, hr, hml, hown, hts, hlk, hK, hZ, hI, hf1, hf2, hc1, hc2⟩ := O
  intro H locs ls hP hS hl
  exact lv_goto hx hb hd ht (k H locs ls hP hS hl)
theorem r_tabIn {K : zK} {X : zX} {cc : ByteArray} {own : String} {ret : Option FieldType} {nL f pc : Nat} {lo : List (Nat × Value)} {st : List Value} {ct : zE} {dflt lo1 hi1 : Int} {offs : Array Int} {len : Nat} {x off : Int} {tgt : Nat} (O : zO K X cc own ret nL f) (bx : zB x) (hd : decode cc pc = .ok (.tableswitch dflt lo1 hi1 offs, len)) (h1 : lo1 ≤ x) (h2 : x ≤ hi1) (ho : offs[(x - lo1).toNat]? = some off) (ht : (pc : Int) + off = (tgt : Int)) (k : G K X nL tgt lo st ct) : G K X nL pc lo (.int (iI x) :: st) ct := by
  obtain ⟨l, D, A, ad, N, cI, cC, cS⟩ := K
  obtain ⟨p, e, R, s, m, args, below, meth, c, Q, cells, slots⟩ := X
  obtain ⟨hx, hb, hr, hml, hown, hts, hlk, hK, hZ, hI, hf1, hf2, hc1, hc2⟩ := O
  intro H locs ls hP hS hl
  have e1 := iI_toInt bx
  exact lv_tableIn hx hb hd (by rw [e1]; omega) (by rw [e1]; omega) (by rw [e1]; exact ho) ht (k H locs ls hP hS hl)
theorem r_tabOut {K : zK} {X : zX} {cc : ByteArray} {own : String} {ret : Option FieldType} {nL f pc : Nat} {lo : List (Nat × Value)} {st : List Value} {ct : zE} {dflt lo1 hi1 : Int} {offs : Array Int} {len : Nat} {x : Int} {tgt : Nat} (O : zO K X cc own ret nL f) (bx : zB x) (hd : decode cc pc = .ok (.tableswitch dflt lo1 hi1 offs, len)) (h : x < lo1 ∨ hi1 < x) (ht : (pc : Int) + dflt = (tgt : Int)) (k : G K X nL tgt lo st ct) : G K X nL pc lo (.int (iI x) :: st) ct := by
  obtain ⟨l, D, A, ad, N, cI, cC, cS⟩ := K
  obtain ⟨p, e, R, s, m, args, below, meth, c, Q, cells, slots⟩ := X
  obtain ⟨hx, hb, hr, hml, hown, hts, hlk, hK, hZ, hI, hf1, hf2, hc1, hc2⟩ := O
  intro H locs ls hP hS hl
  have e1 := iI_toInt bx
  exact lv_tableOut hx hb hd (by rw [e1]; exact h) ht (k H locs ls hP hS hl)
theorem r_look {K : zK} {X : zX} {cc : ByteArray} {own : String} {ret : Option FieldType} {nL f pc : Nat} {lo : List (Nat × Value)} {st : List Value} {ct : zE} {dflt : Int} {ps : Array (Int × Int)} {len : Nat} {x off : Int} {tgt : Nat} (O : zO K X cc own ret nL f) (bx : zB x) (hd : decode cc pc = .ok (.lookupswitch dflt ps, len)) (hp : (ps.toList.zip (ps.toList.drop 1)).all (fun (a, next) => a.1 < next.1) = true) (ho : Op.lookupswitch.offset ps.toList dflt x = off) (ht : (pc : Int) + off = (tgt : Int)) (k : G K X nL tgt lo st ct) : G K X nL pc lo (.int (iI x) :: st) ct := by
  obtain ⟨l, D, A, ad, N, cI, cC, cS⟩ := K
  obtain ⟨p, e, R, s, m, args, below, meth, c, Q, cells, slots⟩ := X
  obtain ⟨hx, hb, hr, hml, hown, hts, hlk, hK, hZ, hI, hf1, hf2, hc1, hc2⟩ := O
  intro H locs ls hP hS hl
  have e1 := iI_toInt bx
  exact lv_lookup hx hb hd hp (by rw [e1]; exact ho) ht (k H locs ls hP hS hl)
theorem w_iadd {K : zK} {X : zX} {cc : ByteArray} {own : String} {ret : Option FieldType} {nL f pc : Nat} {lo : List (Nat × Value)} {st : List Value} {ct : zE} {x y : Int32} (O : zO K X cc own ret nL f) (hd : decode cc pc = .ok (.iadd, 1)) (k : G K X nL (pc + 1) lo (.int (x + y) :: st) ct) : G K X nL pc lo (.int y :: .int x :: st) ct := by
  obtain ⟨l, D, A, ad, N, cI, cC, cS⟩ := K
  obtain ⟨p, e, R, s, m, args, below, meth, c, Q, cells, slots⟩ := X
  obtain ⟨hx, hb, hr, hml, hown, hts, hlk, hK, hZ, hI, hf1, hf2, hc1, hc2⟩ := O
  intro H locs ls hP hS hl
  exact lv_iadd hx hb hd (k H locs ls hP hS hl)
theorem w_isub {K : zK} {X : zX} {cc : ByteArray} {own : String} {ret : Option FieldType} {nL f pc : Nat} {lo : List (Nat × Value)} {st : List Value} {ct : zE} {x y : Int32} (O : zO K X cc own ret nL f) (hd : decode cc pc = .ok (.isub, 1)) (k : G K X nL (pc + 1) lo (.int (x - y) :: st) ct) : G K X nL pc lo (.int y :: .int x :: st) ct := by
  obtain ⟨l, D, A, ad, N, cI, cC, cS⟩ := K
  obtain ⟨p, e, R, s, m, args, below, meth, c, Q, cells, slots⟩ := X
  obtain ⟨hx, hb, hr, hml, hown, hts, hlk, hK, hZ, hI, hf1, hf2, hc1, hc2⟩ := O
  intro H locs ls hP hS hl
  exact lv_isub hx hb hd (k H locs ls hP hS hl)
theorem w_iand {K : zK} {X : zX} {cc : ByteArray} {own : String} {ret : Option FieldType} {nL f pc : Nat} {lo : List (Nat × Value)} {st : List Value} {ct : zE} {x y : Int32} (O : zO K X cc own ret nL f) (hd : decode cc pc = .ok (.iand, 1)) (k : G K X nL (pc + 1) lo (.int (x &&& y) :: st) ct) : G K X nL pc lo (.int y :: .int x :: st) ct := by
  obtain ⟨l, D, A, ad, N, cI, cC, cS⟩ := K
  obtain ⟨p, e, R, s, m, args, below, meth, c, Q, cells, slots⟩ := X
  obtain ⟨hx, hb, hr, hml, hown, hts, hlk, hK, hZ, hI, hf1, hf2, hc1, hc2⟩ := O
  intro H locs ls hP hS hl
  exact lv_iand hx hb hd (k H locs ls hP hS hl)
theorem w_iushr {K : zK} {X : zX} {cc : ByteArray} {own : String} {ret : Option FieldType} {nL f pc : Nat} {lo : List (Nat × Value)} {st : List Value} {ct : zE} {x y : Int32} (O : zO K X cc own ret nL f) (hd : decode cc pc = .ok (.iushr, 1)) (k : G K X nL (pc + 1) lo (.int (x.toUInt32 >>> (y.toUInt32 &&& Int32.toUInt32 31)).toInt32 :: st) ct) : G K X nL pc lo (.int y :: .int x :: st) ct := by
  obtain ⟨l, D, A, ad, N, cI, cC, cS⟩ := K
  obtain ⟨p, e, R, s, m, args, below, meth, c, Q, cells, slots⟩ := X
  obtain ⟨hx, hb, hr, hml, hown, hts, hlk, hK, hZ, hI, hf1, hf2, hc1, hc2⟩ := O
  intro H locs ls hP hS hl
  exact lv_iushr hx hb hd rfl (k H locs ls hP hS hl)
theorem r_ldcw {K : zK} {X : zX} {cc : ByteArray} {own : String} {ret : Option FieldType} {nL f pc : Nat} {lo : List (Nat × Value)} {st : List Value} {ct : zE} {index : Nat} {v : Int32} (O : zO K X cc own ret nL f) (hw : Cond.constant own index v ∈ zTB) (hd : decode cc pc = .ok (.ldc_w index, 3)) (k : G K X nL (pc + 3) lo (.int v :: st) ct) : G K X nL pc lo st ct := by
  obtain ⟨l, D, A, ad, N, cI, cC, cS⟩ := K
  obtain ⟨p, e, R, s, m, args, below, meth, c, Q, cells, slots⟩ := X
  obtain ⟨hx, hb, hr, hml, hown, hts, hlk, hK, hZ, hI, hf1, hf2, hc1, hc2⟩ := O
  intro H locs ls hP hS hl
  exact lv_ldcw hx hb hown (hts _ hw) hd (k H locs ls hP hS hl)
theorem r_ldc2 {K : zK} {X : zX} {cc : ByteArray} {own : String} {ret : Option FieldType} {nL f pc : Nat} {lo : List (Nat × Value)} {st : List Value} {ct : zE} {index : Nat} {v : Int64} (O : zO K X cc own ret nL f) (hw : Cond.constantLong own index v ∈ zTB) (hd : decode cc pc = .ok (.ldc2_w index, 3)) (k : G K X nL (pc + 3) lo (.long v :: st) ct) : G K X nL pc lo st ct := by
  obtain ⟨l, D, A, ad, N, cI, cC, cS⟩ := K
  obtain ⟨p, e, R, s, m, args, below, meth, c, Q, cells, slots⟩ := X
  obtain ⟨hx, hb, hr, hml, hown, hts, hlk, hK, hZ, hI, hf1, hf2, hc1, hc2⟩ := O
  intro H locs ls hP hS hl
  exact lv_ldc2 hx hb hown (hts _ hw) hd (k H locs ls hP hS hl)
/-- a class of the worlds: its place, its fields, its words -/
def zCl (ci : Nat) (C : String) (T : u_T) (n : Nat) : Prop := vwCl[ci]? = some (C, T, n) ∧ (∀ w ∈ u_ws C T n, w ∈ zTB) ∧ (∃ ty : Nat → FieldType, ∀ k, k < n → parseFieldDescriptor (T k).2.2.1 = some (ty k)) ∧ (∀ a, a < n → ∀ b, b < n → a ≠ b → (T a).2.1 ≠ (T b).2.1) ∧ ∀ k, k < n → (T k).1 = C
theorem zCl0 : zCl 0 RX0 TX0 2 := ⟨rfl, inX0, ⟨tyX0, tyX0_ok⟩, nmX0, by decide +kernel⟩
theorem zCl1 : zCl 1 RX1 TX1 3 := ⟨rfl, inX1, ⟨tyX1, tyX1_ok⟩, nmX1, by decide +kernel⟩
theorem zCl2 : zCl 2 RX2 TX2 3 := ⟨rfl, inX2, ⟨tyX2, tyX2_ok⟩, nmX2, by decide +kernel⟩
theorem zCl3 : zCl 3 RX3 TX3 11 := ⟨rfl, inX3, ⟨tyX3, tyX3_ok⟩, nmX3, by decide +kernel⟩
theorem zCl4 : zCl 4 RX4 TX4 3 := ⟨rfl, inX4, ⟨tyX4, tyX4_ok⟩, nmX4, by decide +kernel⟩
theorem zCl5 : zCl 5 RX5 TX5 7 := ⟨rfl, inX5, ⟨tyX5, tyX5_ok⟩, nmX5, by decide +kernel⟩
theorem zCl6 : zCl 6 RX6 TX6 16 := ⟨rfl, inX6, ⟨tyX6, tyX6_ok⟩, nmX6, by decide +kernel⟩
theorem r_get {K : zK} {X : zX} {cc : ByteArray} {own : String} {ret : Option FieldType} {nL f pc : Nat} {lo : List (Nat × Value)} {st : List Value} {ct : zE} {a ci n fi index : Nat} {C : String} {T : u_T} {fs : List Value} {v : Value} (O : zO K X cc own ret nL f) (ha : a < kN K) (he : ct a = .inr (ci, fs)) (hC : zCl ci C T n) (hw : Cond.fieldLink own index C (T fi).2.1 (T fi).2.2.1 ∈ zTB) (hn : fi < n) (hv : fs[fi]? = some v) (hd : decode cc pc = .ok (.getfield index, 3)) (k : G K X nL (pc + 3) lo (v :: st) ct) : G K X nL pc lo (.ref (kad K a) :: st) ct := by
  obtain ⟨l, D, A, ad, N, cI, cC, cS⟩ := K
  obtain ⟨p, e, R, s, m, args, below, meth, c, Q, cells, slots⟩ := X
  obtain ⟨hx, hb, hr, hml, hown, hts, hlk, hK, hZ, hI, hf1, hf2, hc1, hc2⟩ := O
  intro H locs ls hP hS hl
  exact va_get (tys := _) hx hb hts hC.2.1 hown hK hP a (fs := fs) ((zwl_at ha).trans (by rw [he])) hC.1 fi hn (hts _ hw) (fun _ h9 => by rw [hC.2.2.2.2 fi hn] at h9; exact h9) hv hd (k H locs ls hP hS hl)
theorem r_put {K : zK} {X : zX} {cc : ByteArray} {own : String} {ret : Option FieldType} {nL f pc : Nat} {lo : List (Nat × Value)} {st : List Value} {ct : zE} {a ci n fi index : Nat} {C : String} {T : u_T} {fs : List Value} {v : Value} {ty : FieldType} (O : zO K X cc own ret nL f) (ha : a < kN K) (he : ct a = .inr (ci, fs)) (hC : zCl ci C T n) (hw : Cond.fieldLink own index C (T fi).2.1 (T fi).2.2.1 ∈ zTB) (hn : fi < n) (hfin : (T fi).2.2.2 = false) (hty : parseFieldDescriptor (T fi).2.2.1 = some ty) (hnr : narrow ty v = v) (hfit : fits ty v = true) (hl2 : fi < fs.length) (hd : decode cc pc = .ok (.putfield index, 3)) (k : G K X nL (pc + 3) lo st (zup ct a (.inr (ci, fs.set fi v)))) : G K X nL pc lo (v :: .ref (kad K a) :: st) ct := by
  obtain ⟨l, D, A, ad, N, cI, cC, cS⟩ := K
  obtain ⟨p, e, R, s, m, args, below, meth, c, Q, cells, slots⟩ := X
  obtain ⟨hx, hb, hr, hml, hown, hts, hlk, hK, hZ, hI, hf1, hf2, hc1, hc2⟩ := O
  intro H locs ls hP hS hl
  obtain ⟨ty0, hty0⟩ := hC.2.2.1
  refine va_put (tys := _) hx hb hts hC.2.1 ty0 hty0 hC.2.2.2.1 hown hK hP (zwl_D hI ct) hS a (fs := fs) ((zwl_at ha).trans (by rw [he])) hC.1 fi hn (hts _ hw) (fun _ h9 => by rw [hC.2.2.2.2 fi hn] at h9; exact h9) hfin hty hnr hfit hl2 hd (fun H1 locs1 hP1 _ hS1 => ?_)
  refine k H1 locs1 ls ?_ hS1 hl
  have e9 := zwl_set (K := (l, D, A, ad, N, cI, cC, cS)) (ct := ct) (k := a) (.inr (ci, fs.set fi v))
  exact e9 ▸ hP1
theorem r_iald {K : zK} {X : zX} {cc : ByteArray} {own : String} {ret : Option FieldType} {nL f pc : Nat} {lo : List (Nat × Value)} {st : List Value} {ct : zE} {a n : Nat} {g : Int → Int} {z : Int} (O : zO K X cc own ret nL f) (ha : a < kN K) (he : ct a = .inl (kI K, n, .inl (aI g))) (h0 : 0 ≤ z) (h1 : z < n) (hn : n < 2147483648) (hd : decode cc pc = .ok (.iaload, 1)) (k : G K X nL (pc + 1) lo (.int (iI (g z)) :: st) ct) : G K X nL pc lo (.int (iI z) :: .ref (kad K a) :: st) ct := by
  obtain ⟨l, D, A, ad, N, cI, cC, cS⟩ := K
  obtain ⟨p, e, R, s, m, args, below, meth, c, Q, cells, slots⟩ := X
  obtain ⟨hx, hb, hr, hml, hown, hts, hlk, hK, hZ, hI, hf1, hf2, hc1, hc2⟩ := O
  intro H locs ls hP hS hl
  refine va_iald (tys := _) hx hb hK hP a 0 ((zwl_at ha).trans (by rw [he])) rfl (iI_in h0 h1 hn) hd ?_
  rw [aI_rd g h0 (by omega)]
  exact (k H locs ls hP hS hl)
theorem r_cald {K : zK} {X : zX} {cc : ByteArray} {own : String} {ret : Option FieldType} {nL f pc : Nat} {lo : List (Nat × Value)} {st : List Value} {ct : zE} {a n : Nat} {g : Int → Int} {z : Int} (O : zO K X cc own ret nL f) (ha : a < kN K) (he : ct a = .inl (kC K, n, .inl (aI g))) (h0 : 0 ≤ z) (h1 : z < n) (hn : n < 2147483648) (hd : decode cc pc = .ok (.caload, 1)) (k : G K X nL (pc + 1) lo (.int (iI (g z)) :: st) ct) : G K X nL pc lo (.int (iI z) :: .ref (kad K a) :: st) ct := by
  obtain ⟨l, D, A, ad, N, cI, cC, cS⟩ := K
  obtain ⟨p, e, R, s, m, args, below, meth, c, Q, cells, slots⟩ := X
  obtain ⟨hx, hb, hr, hml, hown, hts, hlk, hK, hZ, hI, hf1, hf2, hc1, hc2⟩ := O
  intro H locs ls hP hS hl
  refine va_cald (tys := _) hx hb hK hP a 1 ((zwl_at ha).trans (by rw [he])) rfl (iI_in h0 h1 hn) hd ?_
  rw [aI_rd g h0 (by omega)]
  exact (k H locs ls hP hS hl)
theorem r_iast {K : zK} {X : zX} {cc : ByteArray} {own : String} {ret : Option FieldType} {nL f pc : Nat} {lo : List (Nat × Value)} {st : List Value} {ct : zE} {a n : Nat} {g : Int → Int} {z v : Int} (O : zO K X cc own ret nL f) (ha : a < kN K) (he : ct a = .inl (kI K, n, .inl (aI g))) (h0 : 0 ≤ z) (h1 : z < n) (hn : n < 2147483648) (hd : decode cc pc = .ok (.iastore, 1)) (k : G K X nL (pc + 1) lo st (zup ct a (.inl (kI K, n, .inl (aI (uI g z v)))))) : G K X nL pc lo (.int (iI v) :: .int (iI z) :: .ref (kad K a) :: st) ct := by
  obtain ⟨l, D, A, ad, N, cI, cC, cS⟩ := K
  obtain ⟨p, e, R, s, m, args, below, meth, c, Q, cells, slots⟩ := X
  obtain ⟨hx, hb, hr, hml, hown, hts, hlk, hK, hZ, hI, hf1, hf2, hc1, hc2⟩ := O
  intro H locs ls hP hS hl
  refine va_iast (tys := _) hx hb hK hP (zwl_D hI ct) hS a 0 ((zwl_at ha).trans (by rw [he])) rfl (iI_in h0 h1 hn) hd (fun H1 locs1 hP1 _ hS1 => ?_)
  refine k H1 locs1 ls ?_ hS1 hl
  rw [aI_up g v h0 (by omega)] at hP1
  have e9 := zwl_set (K := (l, D, A, ad, N, cI, cC, cS)) (ct := ct) (k := a) (.inl (cI, n, .inl (aI (uI g z v))))
  exact e9 ▸ hP1
theorem r_alen {K : zK} {X : zX} {cc : ByteArray} {own : String} {ret : Option FieldType} {nL f pc : Nat} {lo : List (Nat × Value)} {st : List Value} {ct : zE} {a : Nat} {cA : ClassId} {x : vp_A} {n : Nat} (O : zO K X cc own ret nL f) (ha : a < kN K) (he : ct a = .inl (cA, x)) (hty : cA = kI K ∨ cA = kC K ∨ cA = kS K) (hn : x.1 = n) (hd : decode cc pc = .ok (.arraylength, 1)) (k : G K X nL (pc + 1) lo (.int (iI (n : Int)) :: st) ct) : G K X nL pc lo (.ref (kad K a) :: st) ct := by
  obtain ⟨l, D, A, ad, N, cI, cC, cS⟩ := K
  obtain ⟨p, e, R, s, m, args, below, meth, c, Q, cells, slots⟩ := X
  obtain ⟨hx, hb, hr, hml, hown, hts, hlk, hK, hZ, hI, hf1, hf2, hc1, hc2⟩ := O
  intro H locs ls hP hS hl
  subst hn
  rcases hty with h | h | h
  · exact va_alen (tys := _) hx hb hK hP a 0 ((zwl_at ha).trans (by rw [he])) (by rw [h]; rfl) (iI_nat _) hd (k H locs ls hP hS hl)
  · exact va_alen (tys := _) hx hb hK hP a 1 ((zwl_at ha).trans (by rw [he])) (by rw [h]; rfl) (iI_nat _) hd (k H locs ls hP hS hl)
  · exact va_alen (tys := _) hx hb hK hP a 2 ((zwl_at ha).trans (by rw [he])) (by rw [h]; rfl) (iI_nat _) hd (k H locs ls hP hS hl)
/-- an array of references: by the cell that each place names -/
def rI (K : zK) (g : Int → Nat) : Nat → Option Nat := fun q => some (kad K (g (q : Int)))
def uN' (g : Int → Nat) (k : Int) (v : Nat) : Int → Nat := fun y => if y = k then v else g y
theorem rI_up (K : zK) (g : Int → Nat) {z : Int} (v : Nat) (h0 : 0 ≤ z) (h : z < 2147483648) : va_up (rI K g) (iI z).toNatClampNeg (some (kad K v)) = rI K (uN' g z v) := by
  funext q
  unfold va_up rI uN'
  rw [iI_cl h0 h]
  by_cases hq : q = z.toNat
  · have h2 : (q : Int) = z := by omega
    rw [if_pos hq, if_pos h2]
  · have h2 : ¬ (q : Int) = z := by omega
    rw [if_neg hq, if_neg h2]
def cpI (f g : Int → Int) (n : Int) : Int → Int := fun i => if 0 ≤ i ∧ i < n then f i else g i
theorem aI_cpy (f g : Int → Int) {n : Int} (h0 : 0 ≤ n) (h : n < 2147483648) : va_cpy (aI f) (aI g) (iI 0).toNatClampNeg (iI 0).toNatClampNeg (iI n).toNatClampNeg = aI (cpI f g n) := by
  funext q
  unfold va_cpy aI cpI
  rw [iI_cl (z := 0) (by omega) (by omega), iI_cl h0 h]
  by_cases hq : (q : Int) < n
  · rw [if_pos (by constructor <;> omega), if_pos ⟨by omega, hq⟩]
    simp
  · rw [if_neg (by omega), if_neg (by omega)]
theorem r_aald {K : zK} {X : zX} {cc : ByteArray} {own : String} {ret : Option FieldType} {nL f pc : Nat} {lo : List (Nat × Value)} {st : List Value} {ct : zE} {a n : Nat} {g : Int → Nat} {z : Int} (O : zO K X cc own ret nL f) (ha : a < kN K) (he : ct a = .inl (kS K, n, .inr (.inr (.inr (.inr (rI K g)))))) (h0 : 0 ≤ z) (h1 : z < n) (hn : n < 2147483648) (hd : decode cc pc = .ok (.aaload, 1)) (k : G K X nL (pc + 1) lo (.ref (kad K (g z)) :: st) ct) : G K X nL pc lo (.int (iI z) :: .ref (kad K a) :: st) ct := by
  obtain ⟨l, D, A, ad, N, cI, cC, cS⟩ := K
  obtain ⟨p, e, R, s, m, args, below, meth, c, Q, cells, slots⟩ := X
  obtain ⟨hx, hb, hr, hml, hown, hts, hlk, hK, hZ, hI, hf1, hf2, hc1, hc2⟩ := O
  intro H locs ls hP hS hl
  refine va_aldq (tys := _) hx hb hK hP a 2 ((zwl_at ha).trans (by rw [he])) rfl (iI_in h0 h1 hn) hd ?_
  have e9 : rI (l, D, A, ad, N, cI, cC, cS) g (iI z).toNatClampNeg = some (ad (g z)) := by
    unfold rI
    rw [iI_cl h0 (by omega), Int.toNat_of_nonneg h0]
    rfl
  rw [e9]
  exact (k H locs ls hP hS hl)
theorem r_aast {K : zK} {X : zX} {cc : ByteArray} {own : String} {ret : Option FieldType} {nL f pc : Nat} {lo : List (Nat × Value)} {st : List Value} {ct : zE} {a n v : Nat} {g : Int → Nat} {z : Int} {vs : List Value} (O : zO K X cc own ret nL f) (ha : a < kN K) (he : ct a = .inl (kS K, n, .inr (.inr (.inr (.inr (rI K g)))))) (hv : v < kN K) (hev : ct v = .inr (3, vs)) (h0 : 0 ≤ z) (h1 : z < n) (hn : n < 2147483648) (hd : decode cc pc = .ok (.aastore, 1)) (k : G K X nL (pc + 1) lo st (zup ct a (.inl (kS K, n, .inr (.inr (.inr (.inr (rI K (uN' g z v))))))))) : G K X nL pc lo (.ref (kad K v) :: .int (iI z) :: .ref (kad K a) :: st) ct := by
  obtain ⟨l, D, A, ad, N, cI, cC, cS⟩ := K
  obtain ⟨p, e, R, s, m, args, below, meth, c, Q, cells, slots⟩ := X
  obtain ⟨hx, hb, hr, hml, hown, hts, hlk, hK, hZ, hI, hf1, hf2, hc1, hc2⟩ := O
  intro H locs ls hP hS hl
  refine va_astq (tys := _) hx hb hK hP (zwl_D hI ct) hS a 2 v 3 (r := (RX3, TX3, 11)) ((zwl_at ha).trans (by rw [he])) rfl ((zwl_at hv).trans (by rw [hev])) rfl (iI_in h0 h1 hn) hd (fun H1 locs1 hP1 _ hS1 => ?_)
  refine k H1 locs1 ls ?_ hS1 hl
  have e8 := rI_up (l, D, A, ad, N, cI, cC, cS) g v h0 (by omega)
  have e7 : kad (l, D, A, ad, N, cI, cC, cS) v = ad v := rfl
  rw [e7] at e8
  have e9 := zwl_set (K := (l, D, A, ad, N, cI, cC, cS)) (ct := ct) (k := a) (.inl (cS, n, .inr (.inr (.inr (.inr (rI (l, D, A, ad, N, cI, cC, cS) (uN' g z v)))))))
  rw [← e8] at e9
  rw [← e8]
  exact e9 ▸ hP1
def zMath_min (own : String) (index : Nat) : Prop := Cond.methodLink own index Lib.Math.min.name ∈ zTB ∧ Cond.static Lib.Math.min.name ∈ zTB ∧ Cond.initialized "java/lang/Math" ∈ zTB ∧ Cond.code Lib.Math.min.name Lib.Math.min.code 2 (some .int) ∈ zTB
theorem r_min {K : zK} {X : zX} {cc : ByteArray} {own : String} {ret : Option FieldType} {nL f pc : Nat} {lo : List (Nat × Value)} {st : List Value} {ct : zE} {index : Nat} {x y : Int} (O : zO K X cc own ret nL f) (hw : zMath_min own index) (hf : 1 ≤ f) (hs : (st.map fun v => v.category).sum ≤ 8) (bx : zB x) (bz : zB y) (hd : decode cc pc = .ok (.invokestatic index, 3)) (k : G K X nL (pc + 3) lo (.int (iI (min x y)) :: st) ct) : G K X nL pc lo (.int (iI y) :: .int (iI x) :: st) ct := by
  obtain ⟨l, D, A, ad, N, cI, cC, cS⟩ := K
  obtain ⟨p, e, R, s, m, args, below, meth, c, Q, cells, slots⟩ := X
  obtain ⟨hx, hb, hr, hml, hown, hts, hlk, hK, hZ, hI, hf1, hf2, hc1, hc2⟩ := O
  intro H locs ls hP hS hl
  refine va_mmin hx hb (hml.trans hl.1.symm) hown (hts _ hw.1) (hts _ hw.2.1) (hts _ hw.2.2.1) (hts _ hw.2.2.2) (Nat.le_trans hf hf1) (by have : 32 * 1 ≤ 32 * f := Nat.mul_le_mul_left 32 hf; exact Nat.le_trans (by omega) (Nat.le_trans this hf2)) hc1 hc2 hd ?_
  have e9 : (if iI y < iI x then iI y else iI x) = iI (min x y) := by
    by_cases h : y < x
    · rw [if_pos ((iI_lt bz bx).mpr h), show min x y = y by omega]
    · rw [if_neg (fun q => h ((iI_lt bz bx).mp q)), show min x y = x by omega]
  rw [e9]
  exact (k H locs ls hP hS hl)
def zMath_max (own : String) (index : Nat) : Prop := Cond.methodLink own index Lib.Math.max.name ∈ zTB ∧ Cond.static Lib.Math.max.name ∈ zTB ∧ Cond.initialized "java/lang/Math" ∈ zTB ∧ Cond.code Lib.Math.max.name Lib.Math.max.code 2 (some .int) ∈ zTB
theorem r_max {K : zK} {X : zX} {cc : ByteArray} {own : String} {ret : Option FieldType} {nL f pc : Nat} {lo : List (Nat × Value)} {st : List Value} {ct : zE} {index : Nat} {x y : Int} (O : zO K X cc own ret nL f) (hw : zMath_max own index) (hf : 1 ≤ f) (hs : (st.map fun v => v.category).sum ≤ 8) (bx : zB x) (bz : zB y) (hd : decode cc pc = .ok (.invokestatic index, 3)) (k : G K X nL (pc + 3) lo (.int (iI (max x y)) :: st) ct) : G K X nL pc lo (.int (iI y) :: .int (iI x) :: st) ct := by
  obtain ⟨l, D, A, ad, N, cI, cC, cS⟩ := K
  obtain ⟨p, e, R, s, m, args, below, meth, c, Q, cells, slots⟩ := X
  obtain ⟨hx, hb, hr, hml, hown, hts, hlk, hK, hZ, hI, hf1, hf2, hc1, hc2⟩ := O
  intro H locs ls hP hS hl
  refine va_mmax hx hb (hml.trans hl.1.symm) hown (hts _ hw.1) (hts _ hw.2.1) (hts _ hw.2.2.1) (hts _ hw.2.2.2) (Nat.le_trans hf hf1) (by have : 32 * 1 ≤ 32 * f := Nat.mul_le_mul_left 32 hf; exact Nat.le_trans (by omega) (Nat.le_trans this hf2)) hc1 hc2 hd ?_
  have e9 : (if iI x < iI y then iI y else iI x) = iI (max x y) := by
    by_cases h : x < y
    · rw [if_pos ((iI_lt bx bz).mpr h), show max x y = y by omega]
    · rw [if_neg (fun q => h ((iI_lt bx bz).mp q)), show max x y = x by omega]
  rw [e9]
  exact (k H locs ls hP hS hl)
def zCopy (own : String) (index : Nat) : Prop := Cond.methodLink own index arraycopyName ∈ zTB ∧ Cond.native arraycopyName ∈ zTB ∧ Cond.static arraycopyName ∈ zTB ∧ Cond.initialized "java/lang/System" ∈ zTB
theorem r_copy {K : zK} {X : zX} {cc : ByteArray} {own : String} {ret : Option FieldType} {nL f pc : Nat} {lo : List (Nat × Value)} {st : List Value} {ct : zE} {index a0 a n0 n1 : Nat} {f0 g : Int → Int} {n : Int} (O : zO K X cc own ret nL f) (hw : zCopy own index) (hf : 1 ≤ f) (hs : (st.map fun v => v.category).sum ≤ 5) (ha0 : a0 < kN K) (ha : a < kN K) (he0 : ct a0 = .inl (kI K, n0, .inl (aI f0))) (he : ct a = .inl (kI K, n1, .inl (aI g))) (h0 : 0 ≤ n) (h1 : n ≤ n0) (h2 : n ≤ n1) (h3 : n < 2147483648) (hd : decode cc pc = .ok (.invokestatic index, 3)) (k : G K X nL (pc + 3) lo st (zup ct a (.inl (kI K, n1, .inl (aI (cpI f0 g n)))))) : G K X nL pc lo (.int (iI n) :: .int (iI 0) :: .ref (kad K a) :: .int (iI 0) :: .ref (kad K a0) :: st) ct := by
  obtain ⟨l, D, A, ad, N, cI, cC, cS⟩ := K
  obtain ⟨p, e, R, s, m, args, below, meth, c, Q, cells, slots⟩ := X
  obtain ⟨hx, hb, hr, hml, hown, hts, hlk, hK, hZ, hI, hf1, hf2, hc1, hc2⟩ := O
  intro H locs ls hP hS hl
  have b0 : zB 0 := ⟨by decide, by decide⟩
  have bn : zB n := ⟨by omega, by omega⟩
  have z0 : (iI 0).toNatClampNeg = 0 := iI_cl (by omega) (by omega)
  have zn : (iI n).toNatClampNeg = n.toNat := iI_cl h0 h3
  have n0' : ¬ iI 0 < 0 := by decide
  have nn : ¬ iI n < 0 := by
    intro q
    have q2 := (iI_lt bn b0).mp q
    omega
  refine va_copyi (tys := _) hx hb (hml.trans hl.1.symm) hown (hts _ hw.1) (hts _ hw.2.1) (hts _ hw.2.2.1) (hts _ hw.2.2.2) hK hP (zwl_D hI ct) hS a0 a 0 0 ((zwl_at ha0).trans (by rw [he0])) ((zwl_at ha).trans (by rw [he])) rfl rfl rfl n0' n0' nn (by rw [z0, zn]; omega) (by rw [z0, zn]; omega) (fun i _ => rfl) (Nat.le_trans hf hf1) (by have : 32 * 1 ≤ 32 * f := Nat.mul_le_mul_left 32 hf; have e4 : nativeFrameWords "java/lang/System" "arraycopy" 5 + 11 ≤ 27 := (by decide +kernel); exact Nat.le_trans (Nat.le_trans (Nat.add_le_add hs e4) (by omega)) (Nat.le_trans this hf2)) hd (fun H1 locs1 hP1 _ hS1 => ?_)
  refine k H1 locs1 ls ?_ hS1 hl
  rw [aI_cpy f0 g h0 h3] at hP1
  have e9 := zwl_set (K := (l, D, A, ad, N, cI, cC, cS)) (ct := ct) (k := a) (.inl (cI, n1, .inl (aI (cpI f0 g n))))
  exact e9 ▸ hP1
/-- a contract: from the world ct, with these arguments, the method ends and says post of its answer and its world -/
def zRoom (f : Nat) : Room := { frames := f, cells := 0, slots := 0, locals := 32 * f }
def zQi (K : zK) (post : Int → zE → Prop) : Array Value → State → Outcome → State → Prop := va_Qi (S := zE) (fun r u => ∃ z : Int, r = iI z ∧ post z u) (fun u t => va_P (kD K) vwCl (zwl K u) t.heap) (kA K)
def zQv (K : zK) (post : zE → Prop) : Array Value → State → Outcome → State → Prop := va_Qv (S := zE) (fun u => post u) (fun u t => va_P (kD K) vwCl (zwl K u) t.heap) (kA K)
def zM (K : zK) (y : MethodName) (b : ByteArray) (nL : Nat) (ret : Option FieldType) (f : Nat) (av : List Value) (ct : zE) (Qc : Array Value → State → Outcome → State → Prop) : Prop := Met (kl K) y (.code y b nL ret :: zTB) (zRoom f) (va_Pc av (zW K ct)) Qc 0 0 (kA K)
def zCi (K : zK) (y : MethodName) (b : ByteArray) (nL : Nat) (ret : Option FieldType) (f : Nat) (av : List Value) (ct : zE) (post : Int → zE → Prop) : Prop := zM K y b nL ret f av ct (zQi K post)
def zCv (K : zK) (y : MethodName) (b : ByteArray) (nL f : Nat) (av : List Value) (ct : zE) (post : zE → Prop) : Prop := zM K y b nL none f av ct (zQv K post)
def zEi (K : zK) (X : zX) (b : ByteArray) (nL : Nat) (rt : FieldType) (post : Int → zE → Prop) : Prop := ∀ (pc : Nat) (lo : List (Nat × Value)) (z : Int) (u : zE), decode b pc = .ok (.ireturn, 1) → narrow rt (.int (iI z)) = .int (iI z) → post z u → G K X nL pc lo [.int (iI z)] u
def zEv (K : zK) (X : zX) (b : ByteArray) (nL : Nat) (post : zE → Prop) : Prop := ∀ (pc : Nat) (lo : List (Nat × Value)) (u : zE), decode b pc = .ok (.return_, 1) → post u → G K X nL pc lo [] u
theorem zCi_in {K : zK} (hI : zInj K) {y : MethodName} {b : ByteArray} {nL : Nat} {rt : FieldType} {f : Nat} {av : List Value} {ct : zE} {post : Int → zE → Prop} (hy : plainName y.cls = true) (hn : (lg_sl av).length ≤ nL)
    (body : ∀ X : zX, zO K X b y.cls (some rt) nL f → zEi K X b nL rt post → G K X nL 0 (lv_args 0 av) [] ct) : zCi K y b nL (some rt) f av ct post := by
  obtain ⟨l, D, A, ad, N, cI, cC, cS⟩ := K
  refine Met.ofW (cc := b) (maxL := nL) (ret := some rt) hy rfl ?_
  intro p e s m args below meth c s₁ B hml hv
  obtain ⟨rfl, hP, hK, hZ⟩ := hv
  have hts := atoms_spec (ws := .code y b nL (some rt) :: zTB) B.pre
  rw [lg_entry_eq]
  refine body (p, e, zRoom f, s, m, av.toArray, below, meth, c, MQ below (zQi (l, D, A, ad, N, cI, cC, cS) post) av.toArray s 0 0 A, 0, 0) ⟨B.exec, B.bytes, B.returns, hml, findClass_of_methodNamed B.named, fun w hw => hts w (List.mem_cons_of_mem _ hw), B.notSynchronized, hK, hZ, hI, Nat.le_refl _, Nat.le_refl _, Nat.le_refl _, Nat.le_refl _⟩ ?_ s.heap [] _ hP va_S.rf (lv_entry av hn)
  intro pc lo z u hd hnr hpost H locs ls hP hS hl
  exact W.zret B.exec B.bytes B.returns hnr (fun t ht hW => ⟨⟨iI z, u, rfl, ⟨z, rfl, hpost⟩, by show va_P _ _ _ t.heap; rw [ht]; exact hP⟩, hS.F ht⟩) hS.2.2 hd B.notSynchronized
theorem zCv_in {K : zK} (hI : zInj K) {y : MethodName} {b : ByteArray} {nL : Nat} {f : Nat} {av : List Value} {ct : zE} {post : zE → Prop} (hy : plainName y.cls = true) (hn : (lg_sl av).length ≤ nL)
    (body : ∀ X : zX, zO K X b y.cls none nL f → zEv K X b nL post → G K X nL 0 (lv_args 0 av) [] ct) : zCv K y b nL f av ct post := by
  obtain ⟨l, D, A, ad, N, cI, cC, cS⟩ := K
  refine Met.ofW (cc := b) (maxL := nL) (ret := none) hy rfl ?_
  intro p e s m args below meth c s₁ B hml hv
  obtain ⟨rfl, hP, hK, hZ⟩ := hv
  have hts := atoms_spec (ws := .code y b nL none :: zTB) B.pre
  rw [lg_entry_eq]
  refine body (p, e, zRoom f, s, m, av.toArray, below, meth, c, MQ below (zQv (l, D, A, ad, N, cI, cC, cS) post) av.toArray s 0 0 A, 0, 0) ⟨B.exec, B.bytes, B.returns, hml, findClass_of_methodNamed B.named, fun w hw => hts w (List.mem_cons_of_mem _ hw), B.notSynchronized, hK, hZ, hI, Nat.le_refl _, Nat.le_refl _, Nat.le_refl _, Nat.le_refl _⟩ ?_ s.heap [] _ hP va_S.rf (lv_entry av hn)
  intro pc lo u hd hpost H locs ls hP hS hl
  exact W.vret B.exec B.bytes B.returns (fun t ht hW => ⟨⟨u, rfl, hpost, by show va_P _ _ _ t.heap; rw [ht]; exact hP⟩, hS.F ht⟩) hS.2.2 hd B.notSynchronized
theorem zblind {K : zK} {av : List Value} {ct : zE} : FrameBlind (va_Pc av (zW K ct)) := fun a U g mk q => by
  obtain ⟨q0, q1, q2, q3⟩ := q
  exact ⟨q0, q1, va_K.moved (u := U) (U := U.calling g mk a) (Vm.Alike.refl U.vm) q2, zNest_same rfl q3⟩
def zDs (y : MethodName) (n : Nat) : Prop := y.cls ≠ "java/lang/invoke/MethodHandle" ∧ y.cls ≠ "java/lang/invoke/VarHandle" ∧ (parseMethodDescriptor y.desc).map (fun d => d.parameters.length) = some n
/-- the words of a call: instance method; static; static of a nest mate -/
def zQV (own : String) (idx : Nat) (y : MethodName) (b : ByteArray) (nL : Nat) (ret : Option FieldType) (n : Nat) : Prop := Cond.methodLink own idx y ∈ zTB ∧ Cond.instanceMethod y ∈ zTB ∧ Cond.selects y.cls y y ∈ zTB ∧ Cond.initialized y.cls ∈ zTB ∧ Cond.code y b nL ret ∈ zTB ∧ zDs y n
def zQS (own : String) (idx : Nat) (y : MethodName) (b : ByteArray) (nL : Nat) (ret : Option FieldType) (n : Nat) : Prop := Cond.methodLink own idx y ∈ zTB ∧ Cond.static y ∈ zTB ∧ Cond.initialized y.cls ∈ zTB ∧ Cond.code y b nL ret ∈ zTB ∧ zDs y n
def zQN (own : String) (idx : Nat) (y : MethodName) (b : ByteArray) (nL : Nat) (ret : Option FieldType) (n : Nat) : Prop := (∀ U : State, zNest U → va_Nw (.methodLinkNest own idx y RX5) U) ∧ Cond.static y ∈ zTB ∧ Cond.initialized y.cls ∈ zTB ∧ Cond.code y b nL ret ∈ zTB ∧ zDs y n
theorem zgoodC {y : MethodName} {b : ByteArray} {nL : Nat} {ret : Option FieldType} (h : Cond.code y b nL ret ∈ zTB) : GoodIn zTB (.code y b nL ret :: zTB) := zgood (fun w hw => (List.mem_cons.mp hw).elim (fun e => e ▸ h) (fun h => h))
theorem zroom {f f' nL' : Nat} {R : Room} (h : f' + 1 ≤ f) (hn : nL' ≤ 13) (h1 : f ≤ R.frames) (h2 : 32 * f ≤ R.locals) : (zRoom f').frames + 1 ≤ R.frames ∧ 8 + (nL' + 11) + (zRoom f').locals ≤ R.locals := by
  refine ⟨Nat.le_trans h h1, Nat.le_trans ?_ h2⟩
  show 8 + (nL' + 11) + 32 * f' ≤ 32 * f
  omega
theorem zcat {st : List Value} (h : (st.map fun v => v.category).sum ≤ 8) {m : MethodId} {pc : Nat} {ls : Array Slot} {x : List Value} : 2 * (F0 m pc ls x).monitorRoom + (st.map fun v => v.category).sum ≤ 8 := lv_room h
theorem r_callV0i {K : zK} {X : zX} {cc : ByteArray} {own : String} {ret : Option FieldType} {nL f pc : Nat} {lo : List (Nat × Value)} {st : List Value} {ct : zE} {y : MethodName} {b : ByteArray} {nL2 f2 idx : Nat} {rt : Option FieldType} {o co : Nat} {q : String × u_T × Nat} {fs : List Value} {post : Int → zE → Prop} (O : zO K X cc own ret nL f) (hC : zCi K y b nL2 rt f2 (.ref (kad K o) :: []) ct post) (hq : zQV own idx y b nL2 rt 0) (ho : o < kN K) (he : ct o = .inr (co, fs)) (hcl : vwCl[co]? = some q) (hqc : q.1 = y.cls) (hf : f2 + 1 ≤ f) (hn : nL2 ≤ 13) (hs : (st.map fun v => v.category).sum ≤ 8) (hd : decode cc pc = .ok (.invokevirtual idx, 3)) (k : ∀ (z : Int) (u : zE), post z u → G K X nL (pc + 3) lo (.int (iI z) :: st) u) : G K X nL pc lo ( .ref (kad K o) :: st) ct := by
  obtain ⟨l, D, A, ad, N, cI, cC, cS⟩ := K
  obtain ⟨p, e, R, s, m, args, below, meth, c, Q, cells, slots⟩ := X
  obtain ⟨hx, hb, hr, hml, hown, hts, hlk, hK, hZ, hI, hf1, hf2, hc1, hc2⟩ := O
  intro H locs ls hP hS hl
  exact va_calli (va_runV (As := []) (rest := st) ⟨hx, hb, hml, hown, hts⟩ hC ⟨callB_of 0 hts (zgoodC hq.2.2.2.2.1) rfl rfl rfl (hts _ hq.2.2.2.1) (hts _ hq.1) hq.2.2.2.2.2 (zroom hf hn hf1 hf2), hts _ hq.2.1, hts _ hq.2.2.1⟩ ⟨zblind, hqc ▸ va_recv hK hP (ci := co) (q0 := o) hcl ((zwl_at ho).trans (by rw [he])), fun U hU hW => ⟨rfl, by rw [hU]; exact hP, va_K.moved hW.alike hK, zNest_warm hW hZ⟩⟩ rfl rfl hl.1 rfl (zcat hs) hd ⟨hc1, hc2⟩) hS (fun q _ h => h) (fun q h => h) (fun r u t H1 locs1 ht _ hw hB _ _ hS1 => by
    obtain ⟨z, rfl, hp⟩ := hw
    exact k z u hp H1 locs1 ls (by rw [← ht]; exact hB) hS1 hl)
theorem r_callV0v {K : zK} {X : zX} {cc : ByteArray} {own : String} {ret : Option FieldType} {nL f pc : Nat} {lo : List (Nat × Value)} {st : List Value} {ct : zE} {y : MethodName} {b : ByteArray} {nL2 f2 idx : Nat} {o co : Nat} {q : String × u_T × Nat} {fs : List Value} {post : zE → Prop} (O : zO K X cc own ret nL f) (hC : zCv K y b nL2 f2 (.ref (kad K o) :: []) ct post) (hq : zQV own idx y b nL2 none 0) (ho : o < kN K) (he : ct o = .inr (co, fs)) (hcl : vwCl[co]? = some q) (hqc : q.1 = y.cls) (hf : f2 + 1 ≤ f) (hn : nL2 ≤ 13) (hs : (st.map fun v => v.category).sum ≤ 8) (hd : decode cc pc = .ok (.invokevirtual idx, 3)) (k : ∀ u : zE, post u → G K X nL (pc + 3) lo st u) : G K X nL pc lo ( .ref (kad K o) :: st) ct := by
  obtain ⟨l, D, A, ad, N, cI, cC, cS⟩ := K
  obtain ⟨p, e, R, s, m, args, below, meth, c, Q, cells, slots⟩ := X
  obtain ⟨hx, hb, hr, hml, hown, hts, hlk, hK, hZ, hI, hf1, hf2, hc1, hc2⟩ := O
  intro H locs ls hP hS hl
  exact va_callv (va_runV (As := []) (rest := st) ⟨hx, hb, hml, hown, hts⟩ hC ⟨callB_of 0 hts (zgoodC hq.2.2.2.2.1) rfl rfl rfl (hts _ hq.2.2.2.1) (hts _ hq.1) hq.2.2.2.2.2 (zroom hf hn hf1 hf2), hts _ hq.2.1, hts _ hq.2.2.1⟩ ⟨zblind, hqc ▸ va_recv hK hP (ci := co) (q0 := o) hcl ((zwl_at ho).trans (by rw [he])), fun U hU hW => ⟨rfl, by rw [hU]; exact hP, va_K.moved hW.alike hK, zNest_warm hW hZ⟩⟩ rfl rfl hl.1 rfl (zcat hs) hd ⟨hc1, hc2⟩) hS (fun q _ h => h) (fun q h => h) (fun u t H1 locs1 ht _ hw hB _ _ hS1 => k u hw H1 locs1 ls (by rw [← ht]; exact hB) hS1 hl)
theorem r_callV1i {K : zK} {X : zX} {cc : ByteArray} {own : String} {ret : Option FieldType} {nL f pc : Nat} {lo : List (Nat × Value)} {st : List Value} {ct : zE} {y : MethodName} {b : ByteArray} {nL2 f2 idx : Nat} {rt : Option FieldType} {a1 : Value} {o co : Nat} {q : String × u_T × Nat} {fs : List Value} {post : Int → zE → Prop} (O : zO K X cc own ret nL f) (hC : zCi K y b nL2 rt f2 (.ref (kad K o) :: [a1]) ct post) (hq : zQV own idx y b nL2 rt 1) (ho : o < kN K) (he : ct o = .inr (co, fs)) (hcl : vwCl[co]? = some q) (hqc : q.1 = y.cls) (hf : f2 + 1 ≤ f) (hn : nL2 ≤ 13) (hs : (st.map fun v => v.category).sum ≤ 8) (hd : decode cc pc = .ok (.invokevirtual idx, 3)) (k : ∀ (z : Int) (u : zE), post z u → G K X nL (pc + 3) lo (.int (iI z) :: st) u) : G K X nL pc lo (a1 ::  .ref (kad K o) :: st) ct := by
  obtain ⟨l, D, A, ad, N, cI, cC, cS⟩ := K
  obtain ⟨p, e, R, s, m, args, below, meth, c, Q, cells, slots⟩ := X
  obtain ⟨hx, hb, hr, hml, hown, hts, hlk, hK, hZ, hI, hf1, hf2, hc1, hc2⟩ := O
  intro H locs ls hP hS hl
  exact va_calli (va_runV (As := [a1]) (rest := st) ⟨hx, hb, hml, hown, hts⟩ hC ⟨callB_of 1 hts (zgoodC hq.2.2.2.2.1) rfl rfl rfl (hts _ hq.2.2.2.1) (hts _ hq.1) hq.2.2.2.2.2 (zroom hf hn hf1 hf2), hts _ hq.2.1, hts _ hq.2.2.1⟩ ⟨zblind, hqc ▸ va_recv hK hP (ci := co) (q0 := o) hcl ((zwl_at ho).trans (by rw [he])), fun U hU hW => ⟨rfl, by rw [hU]; exact hP, va_K.moved hW.alike hK, zNest_warm hW hZ⟩⟩ rfl rfl hl.1 rfl (zcat hs) hd ⟨hc1, hc2⟩) hS (fun q _ h => h) (fun q h => h) (fun r u t H1 locs1 ht _ hw hB _ _ hS1 => by
    obtain ⟨z, rfl, hp⟩ := hw
    exact k z u hp H1 locs1 ls (by rw [← ht]; exact hB) hS1 hl)
theorem r_callV1v {K : zK} {X : zX} {cc : ByteArray} {own : String} {ret : Option FieldType} {nL f pc : Nat} {lo : List (Nat × Value)} {st : List Value} {ct : zE} {y : MethodName} {b : ByteArray} {nL2 f2 idx : Nat} {a1 : Value} {o co : Nat} {q : String × u_T × Nat} {fs : List Value} {post : zE → Prop} (O : zO K X cc own ret nL f) (hC : zCv K y b nL2 f2 (.ref (kad K o) :: [a1]) ct post) (hq : zQV own idx y b nL2 none 1) (ho : o < kN K) (he : ct o = .inr (co, fs)) (hcl : vwCl[co]? = some q) (hqc : q.1 = y.cls) (hf : f2 + 1 ≤ f) (hn : nL2 ≤ 13) (hs : (st.map fun v => v.category).sum ≤ 8) (hd : decode cc pc = .ok (.invokevirtual idx, 3)) (k : ∀ u : zE, post u → G K X nL (pc + 3) lo st u) : G K X nL pc lo (a1 ::  .ref (kad K o) :: st) ct := by
  obtain ⟨l, D, A, ad, N, cI, cC, cS⟩ := K
  obtain ⟨p, e, R, s, m, args, below, meth, c, Q, cells, slots⟩ := X
  obtain ⟨hx, hb, hr, hml, hown, hts, hlk, hK, hZ, hI, hf1, hf2, hc1, hc2⟩ := O
  intro H locs ls hP hS hl
  exact va_callv (va_runV (As := [a1]) (rest := st) ⟨hx, hb, hml, hown, hts⟩ hC ⟨callB_of 1 hts (zgoodC hq.2.2.2.2.1) rfl rfl rfl (hts _ hq.2.2.2.1) (hts _ hq.1) hq.2.2.2.2.2 (zroom hf hn hf1 hf2), hts _ hq.2.1, hts _ hq.2.2.1⟩ ⟨zblind, hqc ▸ va_recv hK hP (ci := co) (q0 := o) hcl ((zwl_at ho).trans (by rw [he])), fun U hU hW => ⟨rfl, by rw [hU]; exact hP, va_K.moved hW.alike hK, zNest_warm hW hZ⟩⟩ rfl rfl hl.1 rfl (zcat hs) hd ⟨hc1, hc2⟩) hS (fun q _ h => h) (fun q h => h) (fun u t H1 locs1 ht _ hw hB _ _ hS1 => k u hw H1 locs1 ls (by rw [← ht]; exact hB) hS1 hl)
theorem r_callV2i {K : zK} {X : zX} {cc : ByteArray} {own : String} {ret : Option FieldType} {nL f pc : Nat} {lo : List (Nat × Value)} {st : List Value} {ct : zE} {y : MethodName} {b : ByteArray} {nL2 f2 idx : Nat} {rt : Option FieldType} {a1 a2 : Value} {o co : Nat} {q : String × u_T × Nat} {fs : List Value} {post : Int → zE → Prop} (O : zO K X cc own ret nL f) (hC : zCi K y b nL2 rt f2 (.ref (kad K o) :: [a1, a2]) ct post) (hq : zQV own idx y b nL2 rt 2) (ho : o < kN K) (he : ct o = .inr (co, fs)) (hcl : vwCl[co]? = some q) (hqc : q.1 = y.cls) (hf : f2 + 1 ≤ f) (hn : nL2 ≤ 13) (hs : (st.map fun v => v.category).sum ≤ 8) (hd : decode cc pc = .ok (.invokevirtual idx, 3)) (k : ∀ (z : Int) (u : zE), post z u → G K X nL (pc + 3) lo (.int (iI z) :: st) u) : G K X nL pc lo (a2 :: a1 ::  .ref (kad K o) :: st) ct := by
  obtain ⟨l, D, A, ad, N, cI, cC, cS⟩ := K
  obtain ⟨p, e, R, s, m, args, below, meth, c, Q, cells, slots⟩ := X
  obtain ⟨hx, hb, hr, hml, hown, hts, hlk, hK, hZ, hI, hf1, hf2, hc1, hc2⟩ := O
  intro H locs ls hP hS hl
  exact va_calli (va_runV (As := [a1, a2]) (rest := st) ⟨hx, hb, hml, hown, hts⟩ hC ⟨callB_of 2 hts (zgoodC hq.2.2.2.2.1) rfl rfl rfl (hts _ hq.2.2.2.1) (hts _ hq.1) hq.2.2.2.2.2 (zroom hf hn hf1 hf2), hts _ hq.2.1, hts _ hq.2.2.1⟩ ⟨zblind, hqc ▸ va_recv hK hP (ci := co) (q0 := o) hcl ((zwl_at ho).trans (by rw [he])), fun U hU hW => ⟨rfl, by rw [hU]; exact hP, va_K.moved hW.alike hK, zNest_warm hW hZ⟩⟩ rfl rfl hl.1 rfl (zcat hs) hd ⟨hc1, hc2⟩) hS (fun q _ h => h) (fun q h => h) (fun r u t H1 locs1 ht _ hw hB _ _ hS1 => by
    obtain ⟨z, rfl, hp⟩ := hw
    exact k z u hp H1 locs1 ls (by rw [← ht]; exact hB) hS1 hl)
theorem r_callV2v {K : zK} {X : zX} {cc : ByteArray} {own : String} {ret : Option FieldType} {nL f pc : Nat} {lo : List (Nat × Value)} {st : List Value} {ct : zE} {y : MethodName} {b : ByteArray} {nL2 f2 idx : Nat} {a1 a2 : Value} {o co : Nat} {q : String × u_T × Nat} {fs : List Value} {post : zE → Prop} (O : zO K X cc own ret nL f) (hC : zCv K y b nL2 f2 (.ref (kad K o) :: [a1, a2]) ct post) (hq : zQV own idx y b nL2 none 2) (ho : o < kN K) (he : ct o = .inr (co, fs)) (hcl : vwCl[co]? = some q) (hqc : q.1 = y.cls) (hf : f2 + 1 ≤ f) (hn : nL2 ≤ 13) (hs : (st.map fun v => v.category).sum ≤ 8) (hd : decode cc pc = .ok (.invokevirtual idx, 3)) (k : ∀ u : zE, post u → G K X nL (pc + 3) lo st u) : G K X nL pc lo (a2 :: a1 ::  .ref (kad K o) :: st) ct := by
  obtain ⟨l, D, A, ad, N, cI, cC, cS⟩ := K
  obtain ⟨p, e, R, s, m, args, below, meth, c, Q, cells, slots⟩ := X
  obtain ⟨hx, hb, hr, hml, hown, hts, hlk, hK, hZ, hI, hf1, hf2, hc1, hc2⟩ := O
  intro H locs ls hP hS hl
  exact va_callv (va_runV (As := [a1, a2]) (rest := st) ⟨hx, hb, hml, hown, hts⟩ hC ⟨callB_of 2 hts (zgoodC hq.2.2.2.2.1) rfl rfl rfl (hts _ hq.2.2.2.1) (hts _ hq.1) hq.2.2.2.2.2 (zroom hf hn hf1 hf2), hts _ hq.2.1, hts _ hq.2.2.1⟩ ⟨zblind, hqc ▸ va_recv hK hP (ci := co) (q0 := o) hcl ((zwl_at ho).trans (by rw [he])), fun U hU hW => ⟨rfl, by rw [hU]; exact hP, va_K.moved hW.alike hK, zNest_warm hW hZ⟩⟩ rfl rfl hl.1 rfl (zcat hs) hd ⟨hc1, hc2⟩) hS (fun q _ h => h) (fun q h => h) (fun u t H1 locs1 ht _ hw hB _ _ hS1 => k u hw H1 locs1 ls (by rw [← ht]; exact hB) hS1 hl)
theorem r_callV3i {K : zK} {X : zX} {cc : ByteArray} {own : String} {ret : Option FieldType} {nL f pc : Nat} {lo : List (Nat × Value)} {st : List Value} {ct : zE} {y : MethodName} {b : ByteArray} {nL2 f2 idx : Nat} {rt : Option FieldType} {a1 a2 a3 : Value} {o co : Nat} {q : String × u_T × Nat} {fs : List Value} {post : Int → zE → Prop} (O : zO K X cc own ret nL f) (hC : zCi K y b nL2 rt f2 (.ref (kad K o) :: [a1, a2, a3]) ct post) (hq : zQV own idx y b nL2 rt 3) (ho : o < kN K) (he : ct o = .inr (co, fs)) (hcl : vwCl[co]? = some q) (hqc : q.1 = y.cls) (hf : f2 + 1 ≤ f) (hn : nL2 ≤ 13) (hs : (st.map fun v => v.category).sum ≤ 8) (hd : decode cc pc = .ok (.invokevirtual idx, 3)) (k : ∀ (z : Int) (u : zE), post z u → G K X nL (pc + 3) lo (.int (iI z) :: st) u) : G K X nL pc lo (a3 :: a2 :: a1 ::  .ref (kad K o) :: st) ct := by
  obtain ⟨l, D, A, ad, N, cI, cC, cS⟩ := K
  obtain ⟨p, e, R, s, m, args, below, meth, c, Q, cells, slots⟩ := X
  obtain ⟨hx, hb, hr, hml, hown, hts, hlk, hK, hZ, hI, hf1, hf2, hc1, hc2⟩ := O
  intro H locs ls hP hS hl
  exact va_calli (va_runV (As := [a1, a2, a3]) (rest := st) ⟨hx, hb, hml, hown, hts⟩ hC ⟨callB_of 3 hts (zgoodC hq.2.2.2.2.1) rfl rfl rfl (hts _ hq.2.2.2.1) (hts _ hq.1) hq.2.2.2.2.2 (zroom hf hn hf1 hf2), hts _ hq.2.1, hts _ hq.2.2.1⟩ ⟨zblind, hqc ▸ va_recv hK hP (ci := co) (q0 := o) hcl ((zwl_at ho).trans (by rw [he])), fun U hU hW => ⟨rfl, by rw [hU]; exact hP, va_K.moved hW.alike hK, zNest_warm hW hZ⟩⟩ rfl rfl hl.1 rfl (zcat hs) hd ⟨hc1, hc2⟩) hS (fun q _ h => h) (fun q h => h) (fun r u t H1 locs1 ht _ hw hB _ _ hS1 => by
    obtain ⟨z, rfl, hp⟩ := hw
    exact k z u hp H1 locs1 ls (by rw [← ht]; exact hB) hS1 hl)
theorem r_callV3v {K : zK} {X : zX} {cc : ByteArray} {own : String} {ret : Option FieldType} {nL f pc : Nat} {lo : List (Nat × Value)} {st : List Value} {ct : zE} {y : MethodName} {b : ByteArray} {nL2 f2 idx : Nat} {a1 a2 a3 : Value} {o co : Nat} {q : String × u_T × Nat} {fs : List Value} {post : zE → Prop} (O : zO K X cc own ret nL f) (hC : zCv K y b nL2 f2 (.ref (kad K o) :: [a1, a2, a3]) ct post) (hq : zQV own idx y b nL2 none 3) (ho : o < kN K) (he : ct o = .inr (co, fs)) (hcl : vwCl[co]? = some q) (hqc : q.1 = y.cls) (hf : f2 + 1 ≤ f) (hn : nL2 ≤ 13) (hs : (st.map fun v => v.category).sum ≤ 8) (hd : decode cc pc = .ok (.invokevirtual idx, 3)) (k : ∀ u : zE, post u → G K X nL (pc + 3) lo st u) : G K X nL pc lo (a3 :: a2 :: a1 ::  .ref (kad K o) :: st) ct := by
  obtain ⟨l, D, A, ad, N, cI, cC, cS⟩ := K
  obtain ⟨p, e, R, s, m, args, below, meth, c, Q, cells, slots⟩ := X
  obtain ⟨hx, hb, hr, hml, hown, hts, hlk, hK, hZ, hI, hf1, hf2, hc1, hc2⟩ := O
  intro H locs ls hP hS hl
  exact va_callv (va_runV (As := [a1, a2, a3]) (rest := st) ⟨hx, hb, hml, hown, hts⟩ hC ⟨callB_of 3 hts (zgoodC hq.2.2.2.2.1) rfl rfl rfl (hts _ hq.2.2.2.1) (hts _ hq.1) hq.2.2.2.2.2 (zroom hf hn hf1 hf2), hts _ hq.2.1, hts _ hq.2.2.1⟩ ⟨zblind, hqc ▸ va_recv hK hP (ci := co) (q0 := o) hcl ((zwl_at ho).trans (by rw [he])), fun U hU hW => ⟨rfl, by rw [hU]; exact hP, va_K.moved hW.alike hK, zNest_warm hW hZ⟩⟩ rfl rfl hl.1 rfl (zcat hs) hd ⟨hc1, hc2⟩) hS (fun q _ h => h) (fun q h => h) (fun u t H1 locs1 ht _ hw hB _ _ hS1 => k u hw H1 locs1 ls (by rw [← ht]; exact hB) hS1 hl)
theorem r_callV4i {K : zK} {X : zX} {cc : ByteArray} {own : String} {ret : Option FieldType} {nL f pc : Nat} {lo : List (Nat × Value)} {st : List Value} {ct : zE} {y : MethodName} {b : ByteArray} {nL2 f2 idx : Nat} {rt : Option FieldType} {a1 a2 a3 a4 : Value} {o co : Nat} {q : String × u_T × Nat} {fs : List Value} {post : Int → zE → Prop} (O : zO K X cc own ret nL f) (hC : zCi K y b nL2 rt f2 (.ref (kad K o) :: [a1, a2, a3, a4]) ct post) (hq : zQV own idx y b nL2 rt 4) (ho : o < kN K) (he : ct o = .inr (co, fs)) (hcl : vwCl[co]? = some q) (hqc : q.1 = y.cls) (hf : f2 + 1 ≤ f) (hn : nL2 ≤ 13) (hs : (st.map fun v => v.category).sum ≤ 8) (hd : decode cc pc = .ok (.invokevirtual idx, 3)) (k : ∀ (z : Int) (u : zE), post z u → G K X nL (pc + 3) lo (.int (iI z) :: st) u) : G K X nL pc lo (a4 :: a3 :: a2 :: a1 ::  .ref (kad K o) :: st) ct := by
  obtain ⟨l, D, A, ad, N, cI, cC, cS⟩ := K
  obtain ⟨p, e, R, s, m, args, below, meth, c, Q, cells, slots⟩ := X
  obtain ⟨hx, hb, hr, hml, hown, hts, hlk, hK, hZ, hI, hf1, hf2, hc1, hc2⟩ := O
  intro H locs ls hP hS hl
  exact va_calli (va_runV (As := [a1, a2, a3, a4]) (rest := st) ⟨hx, hb, hml, hown, hts⟩ hC ⟨callB_of 4 hts (zgoodC hq.2.2.2.2.1) rfl rfl rfl (hts _ hq.2.2.2.1) (hts _ hq.1) hq.2.2.2.2.2 (zroom hf hn hf1 hf2), hts _ hq.2.1, hts _ hq.2.2.1⟩ ⟨zblind, hqc ▸ va_recv hK hP (ci := co) (q0 := o) hcl ((zwl_at ho).trans (by rw [he])), fun U hU hW => ⟨rfl, by rw [hU]; exact hP, va_K.moved hW.alike hK, zNest_warm hW hZ⟩⟩ rfl rfl hl.1 rfl (zcat hs) hd ⟨hc1, hc2⟩) hS (fun q _ h => h) (fun q h => h) (fun r u t H1 locs1 ht _ hw hB _ _ hS1 => by
    obtain ⟨z, rfl, hp⟩ := hw
    exact k z u hp H1 locs1 ls (by rw [← ht]; exact hB) hS1 hl)
theorem r_callV4v {K : zK} {X : zX} {cc : ByteArray} {own : String} {ret : Option FieldType} {nL f pc : Nat} {lo : List (Nat × Value)} {st : List Value} {ct : zE} {y : MethodName} {b : ByteArray} {nL2 f2 idx : Nat} {a1 a2 a3 a4 : Value} {o co : Nat} {q : String × u_T × Nat} {fs : List Value} {post : zE → Prop} (O : zO K X cc own ret nL f) (hC : zCv K y b nL2 f2 (.ref (kad K o) :: [a1, a2, a3, a4]) ct post) (hq : zQV own idx y b nL2 none 4) (ho : o < kN K) (he : ct o = .inr (co, fs)) (hcl : vwCl[co]? = some q) (hqc : q.1 = y.cls) (hf : f2 + 1 ≤ f) (hn : nL2 ≤ 13) (hs : (st.map fun v => v.category).sum ≤ 8) (hd : decode cc pc = .ok (.invokevirtual idx, 3)) (k : ∀ u : zE, post u → G K X nL (pc + 3) lo st u) : G K X nL pc lo (a4 :: a3 :: a2 :: a1 ::  .ref (kad K o) :: st) ct := by
  obtain ⟨l, D, A, ad, N, cI, cC, cS⟩ := K
  obtain ⟨p, e, R, s, m, args, below, meth, c, Q, cells, slots⟩ := X
  obtain ⟨hx, hb, hr, hml, hown, hts, hlk, hK, hZ, hI, hf1, hf2, hc1, hc2⟩ := O
  intro H locs ls hP hS hl
  exact va_callv (va_runV (As := [a1, a2, a3, a4]) (rest := st) ⟨hx, hb, hml, hown, hts⟩ hC ⟨callB_of 4 hts (zgoodC hq.2.2.2.2.1) rfl rfl rfl (hts _ hq.2.2.2.1) (hts _ hq.1) hq.2.2.2.2.2 (zroom hf hn hf1 hf2), hts _ hq.2.1, hts _ hq.2.2.1⟩ ⟨zblind, hqc ▸ va_recv hK hP (ci := co) (q0 := o) hcl ((zwl_at ho).trans (by rw [he])), fun U hU hW => ⟨rfl, by rw [hU]; exact hP, va_K.moved hW.alike hK, zNest_warm hW hZ⟩⟩ rfl rfl hl.1 rfl (zcat hs) hd ⟨hc1, hc2⟩) hS (fun q _ h => h) (fun q h => h) (fun u t H1 locs1 ht _ hw hB _ _ hS1 => k u hw H1 locs1 ls (by rw [← ht]; exact hB) hS1 hl)
theorem r_callS0i {K : zK} {X : zX} {cc : ByteArray} {own : String} {ret : Option FieldType} {nL f pc : Nat} {lo : List (Nat × Value)} {st : List Value} {ct : zE} {y : MethodName} {b : ByteArray} {nL2 f2 idx : Nat} {rt : Option FieldType} {post : Int → zE → Prop} (O : zO K X cc own ret nL f) (hC : zCi K y b nL2 rt f2 [] ct post) (hq : zQS own idx y b nL2 rt 0) (hf : f2 + 1 ≤ f) (hn : nL2 ≤ 13) (hs : (st.map fun v => v.category).sum ≤ 8) (hd : decode cc pc = .ok (.invokestatic idx, 3)) (k : ∀ (z : Int) (u : zE), post z u → G K X nL (pc + 3) lo (.int (iI z) :: st) u) : G K X nL pc lo ( st) ct := by
  obtain ⟨l, D, A, ad, N, cI, cC, cS⟩ := K
  obtain ⟨p, e, R, s, m, args, below, meth, c, Q, cells, slots⟩ := X
  obtain ⟨hx, hb, hr, hml, hown, hts, hlk, hK, hZ, hI, hf1, hf2, hc1, hc2⟩ := O
  intro H locs ls hP hS hl
  exact va_calli (va_runS (As := []) (rest := st) ⟨hx, hb, hml, hown, hts⟩ hC ⟨callB_of 0 hts (zgoodC hq.2.2.2.1) rfl rfl rfl (hts _ hq.2.2.1) (hts _ hq.1) hq.2.2.2.2 (zroom hf hn hf1 hf2), hts _ hq.2.1⟩ ⟨zblind, fun U hU hW => ⟨rfl, by rw [hU]; exact hP, va_K.moved hW.alike hK, zNest_warm hW hZ⟩⟩ rfl rfl hl.1 rfl (zcat hs) hd ⟨hc1, hc2⟩) hS (fun q _ h => h) (fun q h => h) (fun r u t H1 locs1 ht _ hw hB _ _ hS1 => by
    obtain ⟨z, rfl, hp⟩ := hw
    exact k z u hp H1 locs1 ls (by rw [← ht]; exact hB) hS1 hl)
theorem r_callS0v {K : zK} {X : zX} {cc : ByteArray} {own : String} {ret : Option FieldType} {nL f pc : Nat} {lo : List (Nat × Value)} {st : List Value} {ct : zE} {y : MethodName} {b : ByteArray} {nL2 f2 idx : Nat} {post : zE → Prop} (O : zO K X cc own ret nL f) (hC : zCv K y b nL2 f2 [] ct post) (hq : zQS own idx y b nL2 none 0) (hf : f2 + 1 ≤ f) (hn : nL2 ≤ 13) (hs : (st.map fun v => v.category).sum ≤ 8) (hd : decode cc pc = .ok (.invokestatic idx, 3)) (k : ∀ u : zE, post u → G K X nL (pc + 3) lo st u) : G K X nL pc lo ( st) ct := by
  obtain ⟨l, D, A, ad, N, cI, cC, cS⟩ := K
  obtain ⟨p, e, R, s, m, args, below, meth, c, Q, cells, slots⟩ := X
  obtain ⟨hx, hb, hr, hml, hown, hts, hlk, hK, hZ, hI, hf1, hf2, hc1, hc2⟩ := O
  intro H locs ls hP hS hl
  exact va_callv (va_runS (As := []) (rest := st) ⟨hx, hb, hml, hown, hts⟩ hC ⟨callB_of 0 hts (zgoodC hq.2.2.2.1) rfl rfl rfl (hts _ hq.2.2.1) (hts _ hq.1) hq.2.2.2.2 (zroom hf hn hf1 hf2), hts _ hq.2.1⟩ ⟨zblind, fun U hU hW => ⟨rfl, by rw [hU]; exact hP, va_K.moved hW.alike hK, zNest_warm hW hZ⟩⟩ rfl rfl hl.1 rfl (zcat hs) hd ⟨hc1, hc2⟩) hS (fun q _ h => h) (fun q h => h) (fun u t H1 locs1 ht _ hw hB _ _ hS1 => k u hw H1 locs1 ls (by rw [← ht]; exact hB) hS1 hl)
theorem r_callS1i {K : zK} {X : zX} {cc : ByteArray} {own : String} {ret : Option FieldType} {nL f pc : Nat} {lo : List (Nat × Value)} {st : List Value} {ct : zE} {y : MethodName} {b : ByteArray} {nL2 f2 idx : Nat} {rt : Option FieldType} {a1 : Value} {post : Int → zE → Prop} (O : zO K X cc own ret nL f) (hC : zCi K y b nL2 rt f2 [a1] ct post) (hq : zQS own idx y b nL2 rt 1) (hf : f2 + 1 ≤ f) (hn : nL2 ≤ 13) (hs : (st.map fun v => v.category).sum ≤ 8) (hd : decode cc pc = .ok (.invokestatic idx, 3)) (k : ∀ (z : Int) (u : zE), post z u → G K X nL (pc + 3) lo (.int (iI z) :: st) u) : G K X nL pc lo (a1 ::  st) ct := by
  obtain ⟨l, D, A, ad, N, cI, cC, cS⟩ := K
  obtain ⟨p, e, R, s, m, args, below, meth, c, Q, cells, slots⟩ := X
  obtain ⟨hx, hb, hr, hml, hown, hts, hlk, hK, hZ, hI, hf1, hf2, hc1, hc2⟩ := O
  intro H locs ls hP hS hl
  exact va_calli (va_runS (As := [a1]) (rest := st) ⟨hx, hb, hml, hown, hts⟩ hC ⟨callB_of 1 hts (zgoodC hq.2.2.2.1) rfl rfl rfl (hts _ hq.2.2.1) (hts _ hq.1) hq.2.2.2.2 (zroom hf hn hf1 hf2), hts _ hq.2.1⟩ ⟨zblind, fun U hU hW => ⟨rfl, by rw [hU]; exact hP, va_K.moved hW.alike hK, zNest_warm hW hZ⟩⟩ rfl rfl hl.1 rfl (zcat hs) hd ⟨hc1, hc2⟩) hS (fun q _ h => h) (fun q h => h) (fun r u t H1 locs1 ht _ hw hB _ _ hS1 => by
    obtain ⟨z, rfl, hp⟩ := hw
    exact k z u hp H1 locs1 ls (by rw [← ht]; exact hB) hS1 hl)
theorem r_callS1v {K : zK} {X : zX} {cc : ByteArray} {own : String} {ret : Option FieldType} {nL f pc : Nat} {lo : List (Nat × Value)} {st : List Value} {ct : zE} {y : MethodName} {b : ByteArray} {nL2 f2 idx : Nat} {a1 : Value} {post : zE → Prop} (O : zO K X cc own ret nL f) (hC : zCv K y b nL2 f2 [a1] ct post) (hq : zQS own idx y b nL2 none 1) (hf : f2 + 1 ≤ f) (hn : nL2 ≤ 13) (hs : (st.map fun v => v.category).sum ≤ 8) (hd : decode cc pc = .ok (.invokestatic idx, 3)) (k : ∀ u : zE, post u → G K X nL (pc + 3) lo st u) : G K X nL pc lo (a1 ::  st) ct := by
  obtain ⟨l, D, A, ad, N, cI, cC, cS⟩ := K
  obtain ⟨p, e, R, s, m, args, below, meth, c, Q, cells, slots⟩ := X
  obtain ⟨hx, hb, hr, hml, hown, hts, hlk, hK, hZ, hI, hf1, hf2, hc1, hc2⟩ := O
  intro H locs ls hP hS hl
  exact va_callv (va_runS (As := [a1]) (rest := st) ⟨hx, hb, hml, hown, hts⟩ hC ⟨callB_of 1 hts (zgoodC hq.2.2.2.1) rfl rfl rfl (hts _ hq.2.2.1) (hts _ hq.1) hq.2.2.2.2 (zroom hf hn hf1 hf2), hts _ hq.2.1⟩ ⟨zblind, fun U hU hW => ⟨rfl, by rw [hU]; exact hP, va_K.moved hW.alike hK, zNest_warm hW hZ⟩⟩ rfl rfl hl.1 rfl (zcat hs) hd ⟨hc1, hc2⟩) hS (fun q _ h => h) (fun q h => h) (fun u t H1 locs1 ht _ hw hB _ _ hS1 => k u hw H1 locs1 ls (by rw [← ht]; exact hB) hS1 hl)
theorem r_callS2i {K : zK} {X : zX} {cc : ByteArray} {own : String} {ret : Option FieldType} {nL f pc : Nat} {lo : List (Nat × Value)} {st : List Value} {ct : zE} {y : MethodName} {b : ByteArray} {nL2 f2 idx : Nat} {rt : Option FieldType} {a1 a2 : Value} {post : Int → zE → Prop} (O : zO K X cc own ret nL f) (hC : zCi K y b nL2 rt f2 [a1, a2] ct post) (hq : zQS own idx y b nL2 rt 2) (hf : f2 + 1 ≤ f) (hn : nL2 ≤ 13) (hs : (st.map fun v => v.category).sum ≤ 8) (hd : decode cc pc = .ok (.invokestatic idx, 3)) (k : ∀ (z : Int) (u : zE), post z u → G K X nL (pc + 3) lo (.int (iI z) :: st) u) : G K X nL pc lo (a2 :: a1 ::  st) ct := by
  obtain ⟨l, D, A, ad, N, cI, cC, cS⟩ := K
  obtain ⟨p, e, R, s, m, args, below, meth, c, Q, cells, slots⟩ := X
  obtain ⟨hx, hb, hr, hml, hown, hts, hlk, hK, hZ, hI, hf1, hf2, hc1, hc2⟩ := O
  intro H locs ls hP hS hl
  exact va_calli (va_runS (As := [a1, a2]) (rest := st) ⟨hx, hb, hml, hown, hts⟩ hC ⟨callB_of 2 hts (zgoodC hq.2.2.2.1) rfl rfl rfl (hts _ hq.2.2.1) (hts _ hq.1) hq.2.2.2.2 (zroom hf hn hf1 hf2), hts _ hq.2.1⟩ ⟨zblind, fun U hU hW => ⟨rfl, by rw [hU]; exact hP, va_K.moved hW.alike hK, zNest_warm hW hZ⟩⟩ rfl rfl hl.1 rfl (zcat hs) hd ⟨hc1, hc2⟩) hS (fun q _ h => h) (fun q h => h) (fun r u t H1 locs1 ht _ hw hB _ _ hS1 => by
    obtain ⟨z, rfl, hp⟩ := hw
    exact k z u hp H1 locs1 ls (by rw [← ht]; exact hB) hS1 hl)
theorem r_callS2v {K : zK} {X : zX} {cc : ByteArray} {own : String} {ret : Option FieldType} {nL f pc : Nat} {lo : List (Nat × Value)} {st : List Value} {ct : zE} {y : MethodName} {b : ByteArray} {nL2 f2 idx : Nat} {a1 a2 : Value} {post : zE → Prop} (O : zO K X cc own ret nL f) (hC : zCv K y b nL2 f2 [a1, a2] ct post) (hq : zQS own idx y b nL2 none 2) (hf : f2 + 1 ≤ f) (hn : nL2 ≤ 13) (hs : (st.map fun v => v.category).sum ≤ 8) (hd : decode cc pc = .ok (.invokestatic idx, 3)) (k : ∀ u : zE, post u → G K X nL (pc + 3) lo st u) : G K X nL pc lo (a2 :: a1 ::  st) ct := by
  obtain ⟨l, D, A, ad, N, cI, cC, cS⟩ := K
  obtain ⟨p, e, R, s, m, args, below, meth, c, Q, cells, slots⟩ := X
  obtain ⟨hx, hb, hr, hml, hown, hts, hlk, hK, hZ, hI, hf1, hf2, hc1, hc2⟩ := O
  intro H locs ls hP hS hl
  exact va_callv (va_runS (As := [a1, a2]) (rest := st) ⟨hx, hb, hml, hown, hts⟩ hC ⟨callB_of 2 hts (zgoodC hq.2.2.2.1) rfl rfl rfl (hts _ hq.2.2.1) (hts _ hq.1) hq.2.2.2.2 (zroom hf hn hf1 hf2), hts _ hq.2.1⟩ ⟨zblind, fun U hU hW => ⟨rfl, by rw [hU]; exact hP, va_K.moved hW.alike hK, zNest_warm hW hZ⟩⟩ rfl rfl hl.1 rfl (zcat hs) hd ⟨hc1, hc2⟩) hS (fun q _ h => h) (fun q h => h) (fun u t H1 locs1 ht _ hw hB _ _ hS1 => k u hw H1 locs1 ls (by rw [← ht]; exact hB) hS1 hl)
theorem r_callS3i {K : zK} {X : zX} {cc : ByteArray} {own : String} {ret : Option FieldType} {nL f pc : Nat} {lo : List (Nat × Value)} {st : List Value} {ct : zE} {y : MethodName} {b : ByteArray} {nL2 f2 idx : Nat} {rt : Option FieldType} {a1 a2 a3 : Value} {post : Int → zE → Prop} (O : zO K X cc own ret nL f) (hC : zCi K y b nL2 rt f2 [a1, a2, a3] ct post) (hq : zQS own idx y b nL2 rt 3) (hf : f2 + 1 ≤ f) (hn : nL2 ≤ 13) (hs : (st.map fun v => v.category).sum ≤ 8) (hd : decode cc pc = .ok (.invokestatic idx, 3)) (k : ∀ (z : Int) (u : zE), post z u → G K X nL (pc + 3) lo (.int (iI z) :: st) u) : G K X nL pc lo (a3 :: a2 :: a1 ::  st) ct := by
  obtain ⟨l, D, A, ad, N, cI, cC, cS⟩ := K
  obtain ⟨p, e, R, s, m, args, below, meth, c, Q, cells, slots⟩ := X
  obtain ⟨hx, hb, hr, hml, hown, hts, hlk, hK, hZ, hI, hf1, hf2, hc1, hc2⟩ := O
  intro H locs ls hP hS hl
  exact va_calli (va_runS (As := [a1, a2, a3]) (rest := st) ⟨hx, hb, hml, hown, hts⟩ hC ⟨callB_of 3 hts (zgoodC hq.2.2.2.1) rfl rfl rfl (hts _ hq.2.2.1) (hts _ hq.1) hq.2.2.2.2 (zroom hf hn hf1 hf2), hts _ hq.2.1⟩ ⟨zblind, fun U hU hW => ⟨rfl, by rw [hU]; exact hP, va_K.moved hW.alike hK, zNest_warm hW hZ⟩⟩ rfl rfl hl.1 rfl (zcat hs) hd ⟨hc1, hc2⟩) hS (fun q _ h => h) (fun q h => h) (fun r u t H1 locs1 ht _ hw hB _ _ hS1 => by
    obtain ⟨z, rfl, hp⟩ := hw
    exact k z u hp H1 locs1 ls (by rw [← ht]; exact hB) hS1 hl)
theorem r_callS3v {K : zK} {X : zX} {cc : ByteArray} {own : String} {ret : Option FieldType} {nL f pc : Nat} {lo : List (Nat × Value)} {st : List Value} {ct : zE} {y : MethodName} {b : ByteArray} {nL2 f2 idx : Nat} {a1 a2 a3 : Value} {post : zE → Prop} (O : zO K X cc own ret nL f) (hC : zCv K y b nL2 f2 [a1, a2, a3] ct post) (hq : zQS own idx y b nL2 none 3) (hf : f2 + 1 ≤ f) (hn : nL2 ≤ 13) (hs : (st.map fun v => v.category).sum ≤ 8) (hd : decode cc pc = .ok (.invokestatic idx, 3)) (k : ∀ u : zE, post u → G K X nL (pc + 3) lo st u) : G K X nL pc lo (a3 :: a2 :: a1 ::  st) ct := by
  obtain ⟨l, D, A, ad, N, cI, cC, cS⟩ := K
  obtain ⟨p, e, R, s, m, args, below, meth, c, Q, cells, slots⟩ := X
  obtain ⟨hx, hb, hr, hml, hown, hts, hlk, hK, hZ, hI, hf1, hf2, hc1, hc2⟩ := O
  intro H locs ls hP hS hl
  exact va_callv (va_runS (As := [a1, a2, a3]) (rest := st) ⟨hx, hb, hml, hown, hts⟩ hC ⟨callB_of 3 hts (zgoodC hq.2.2.2.1) rfl rfl rfl (hts _ hq.2.2.1) (hts _ hq.1) hq.2.2.2.2 (zroom hf hn hf1 hf2), hts _ hq.2.1⟩ ⟨zblind, fun U hU hW => ⟨rfl, by rw [hU]; exact hP, va_K.moved hW.alike hK, zNest_warm hW hZ⟩⟩ rfl rfl hl.1 rfl (zcat hs) hd ⟨hc1, hc2⟩) hS (fun q _ h => h) (fun q h => h) (fun u t H1 locs1 ht _ hw hB _ _ hS1 => k u hw H1 locs1 ls (by rw [← ht]; exact hB) hS1 hl)
theorem r_callS4i {K : zK} {X : zX} {cc : ByteArray} {own : String} {ret : Option FieldType} {nL f pc : Nat} {lo : List (Nat × Value)} {st : List Value} {ct : zE} {y : MethodName} {b : ByteArray} {nL2 f2 idx : Nat} {rt : Option FieldType} {a1 a2 a3 a4 : Value} {post : Int → zE → Prop} (O : zO K X cc own ret nL f) (hC : zCi K y b nL2 rt f2 [a1, a2, a3, a4] ct post) (hq : zQS own idx y b nL2 rt 4) (hf : f2 + 1 ≤ f) (hn : nL2 ≤ 13) (hs : (st.map fun v => v.category).sum ≤ 8) (hd : decode cc pc = .ok (.invokestatic idx, 3)) (k : ∀ (z : Int) (u : zE), post z u → G K X nL (pc + 3) lo (.int (iI z) :: st) u) : G K X nL pc lo (a4 :: a3 :: a2 :: a1 ::  st) ct := by
  obtain ⟨l, D, A, ad, N, cI, cC, cS⟩ := K
  obtain ⟨p, e, R, s, m, args, below, meth, c, Q, cells, slots⟩ := X
  obtain ⟨hx, hb, hr, hml, hown, hts, hlk, hK, hZ, hI, hf1, hf2, hc1, hc2⟩ := O
  intro H locs ls hP hS hl
  exact va_calli (va_runS (As := [a1, a2, a3, a4]) (rest := st) ⟨hx, hb, hml, hown, hts⟩ hC ⟨callB_of 4 hts (zgoodC hq.2.2.2.1) rfl rfl rfl (hts _ hq.2.2.1) (hts _ hq.1) hq.2.2.2.2 (zroom hf hn hf1 hf2), hts _ hq.2.1⟩ ⟨zblind, fun U hU hW => ⟨rfl, by rw [hU]; exact hP, va_K.moved hW.alike hK, zNest_warm hW hZ⟩⟩ rfl rfl hl.1 rfl (zcat hs) hd ⟨hc1, hc2⟩) hS (fun q _ h => h) (fun q h => h) (fun r u t H1 locs1 ht _ hw hB _ _ hS1 => by
    obtain ⟨z, rfl, hp⟩ := hw
    exact k z u hp H1 locs1 ls (by rw [← ht]; exact hB) hS1 hl)
theorem r_callS4v {K : zK} {X : zX} {cc : ByteArray} {own : String} {ret : Option FieldType} {nL f pc : Nat} {lo : List (Nat × Value)} {st : List Value} {ct : zE} {y : MethodName} {b : ByteArray} {nL2 f2 idx : Nat} {a1 a2 a3 a4 : Value} {post : zE → Prop} (O : zO K X cc own ret nL f) (hC : zCv K y b nL2 f2 [a1, a2, a3, a4] ct post) (hq : zQS own idx y b nL2 none 4) (hf : f2 + 1 ≤ f) (hn : nL2 ≤ 13) (hs : (st.map fun v => v.category).sum ≤ 8) (hd : decode cc pc = .ok (.invokestatic idx, 3)) (k : ∀ u : zE, post u → G K X nL (pc + 3) lo st u) : G K X nL pc lo (a4 :: a3 :: a2 :: a1 ::  st) ct := by
  obtain ⟨l, D, A, ad, N, cI, cC, cS⟩ := K
  obtain ⟨p, e, R, s, m, args, below, meth, c, Q, cells, slots⟩ := X
  obtain ⟨hx, hb, hr, hml, hown, hts, hlk, hK, hZ, hI, hf1, hf2, hc1, hc2⟩ := O
  intro H locs ls hP hS hl
  exact va_callv (va_runS (As := [a1, a2, a3, a4]) (rest := st) ⟨hx, hb, hml, hown, hts⟩ hC ⟨callB_of 4 hts (zgoodC hq.2.2.2.1) rfl rfl rfl (hts _ hq.2.2.1) (hts _ hq.1) hq.2.2.2.2 (zroom hf hn hf1 hf2), hts _ hq.2.1⟩ ⟨zblind, fun U hU hW => ⟨rfl, by rw [hU]; exact hP, va_K.moved hW.alike hK, zNest_warm hW hZ⟩⟩ rfl rfl hl.1 rfl (zcat hs) hd ⟨hc1, hc2⟩) hS (fun q _ h => h) (fun q h => h) (fun u t H1 locs1 ht _ hw hB _ _ hS1 => k u hw H1 locs1 ls (by rw [← ht]; exact hB) hS1 hl)
theorem r_callN0i {K : zK} {X : zX} {cc : ByteArray} {own : String} {ret : Option FieldType} {nL f pc : Nat} {lo : List (Nat × Value)} {st : List Value} {ct : zE} {y : MethodName} {b : ByteArray} {nL2 f2 idx : Nat} {rt : Option FieldType} {post : Int → zE → Prop} (O : zO K X cc own ret nL f) (hC : zCi K y b nL2 rt f2 [] ct post) (hq : zQN own idx y b nL2 rt 0) (hf : f2 + 1 ≤ f) (hn : nL2 ≤ 13) (hs : (st.map fun v => v.category).sum ≤ 8) (hd : decode cc pc = .ok (.invokestatic idx, 3)) (k : ∀ (z : Int) (u : zE), post z u → G K X nL (pc + 3) lo (.int (iI z) :: st) u) : G K X nL pc lo ( st) ct := by
  obtain ⟨l, D, A, ad, N, cI, cC, cS⟩ := K
  obtain ⟨p, e, R, s, m, args, below, meth, c, Q, cells, slots⟩ := X
  obtain ⟨hx, hb, hr, hml, hown, hts, hlk, hK, hZ, hI, hf1, hf2, hc1, hc2⟩ := O
  intro H locs ls hP hS hl
  exact va_calli (va_runSN (As := []) (rest := st) ⟨hx, hb, hml, hown, hts⟩ hC ⟨va_cnB 0 hts (zgoodC hq.2.2.2.1) rfl rfl rfl (hq.1 _ hZ) (hts _ hq.2.2.1) hq.2.2.2.2 (zroom hf hn hf1 hf2), hts _ hq.2.1, trivial⟩ ⟨zblind, fun U hU hW => ⟨rfl, by rw [hU]; exact hP, va_K.moved hW.alike hK, zNest_warm hW hZ⟩⟩ rfl rfl hl.1 rfl (zcat hs) hd ⟨hc1, hc2⟩) hS (fun q _ h => h) (fun q h => h) (fun r u t H1 locs1 ht _ hw hB _ _ hS1 => by
    obtain ⟨z, rfl, hp⟩ := hw
    exact k z u hp H1 locs1 ls (by rw [← ht]; exact hB) hS1 hl)
theorem r_callN0v {K : zK} {X : zX} {cc : ByteArray} {own : String} {ret : Option FieldType} {nL f pc : Nat} {lo : List (Nat × Value)} {st : List Value} {ct : zE} {y : MethodName} {b : ByteArray} {nL2 f2 idx : Nat} {post : zE → Prop} (O : zO K X cc own ret nL f) (hC : zCv K y b nL2 f2 [] ct post) (hq : zQN own idx y b nL2 none 0) (hf : f2 + 1 ≤ f) (hn : nL2 ≤ 13) (hs : (st.map fun v => v.category).sum ≤ 8) (hd : decode cc pc = .ok (.invokestatic idx, 3)) (k : ∀ u : zE, post u → G K X nL (pc + 3) lo st u) : G K X nL pc lo ( st) ct := by
  obtain ⟨l, D, A, ad, N, cI, cC, cS⟩ := K
  obtain ⟨p, e, R, s, m, args, below, meth, c, Q, cells, slots⟩ := X
  obtain ⟨hx, hb, hr, hml, hown, hts, hlk, hK, hZ, hI, hf1, hf2, hc1, hc2⟩ := O
  intro H locs ls hP hS hl
  exact va_callv (va_runSN (As := []) (rest := st) ⟨hx, hb, hml, hown, hts⟩ hC ⟨va_cnB 0 hts (zgoodC hq.2.2.2.1) rfl rfl rfl (hq.1 _ hZ) (hts _ hq.2.2.1) hq.2.2.2.2 (zroom hf hn hf1 hf2), hts _ hq.2.1, trivial⟩ ⟨zblind, fun U hU hW => ⟨rfl, by rw [hU]; exact hP, va_K.moved hW.alike hK, zNest_warm hW hZ⟩⟩ rfl rfl hl.1 rfl (zcat hs) hd ⟨hc1, hc2⟩) hS (fun q _ h => h) (fun q h => h) (fun u t H1 locs1 ht _ hw hB _ _ hS1 => k u hw H1 locs1 ls (by rw [← ht]; exact hB) hS1 hl)
theorem r_callN1i {K : zK} {X : zX} {cc : ByteArray} {own : String} {ret : Option FieldType} {nL f pc : Nat} {lo : List (Nat × Value)} {st : List Value} {ct : zE} {y : MethodName} {b : ByteArray} {nL2 f2 idx : Nat} {rt : Option FieldType} {a1 : Value} {post : Int → zE → Prop} (O : zO K X cc own ret nL f) (hC : zCi K y b nL2 rt f2 [a1] ct post) (hq : zQN own idx y b nL2 rt 1) (hf : f2 + 1 ≤ f) (hn : nL2 ≤ 13) (hs : (st.map fun v => v.category).sum ≤ 8) (hd : decode cc pc = .ok (.invokestatic idx, 3)) (k : ∀ (z : Int) (u : zE), post z u → G K X nL (pc + 3) lo (.int (iI z) :: st) u) : G K X nL pc lo (a1 ::  st) ct := by
  obtain ⟨l, D, A, ad, N, cI, cC, cS⟩ := K
  obtain ⟨p, e, R, s, m, args, below, meth, c, Q, cells, slots⟩ := X
  obtain ⟨hx, hb, hr, hml, hown, hts, hlk, hK, hZ, hI, hf1, hf2, hc1, hc2⟩ := O
  intro H locs ls hP hS hl
  exact va_calli (va_runSN (As := [a1]) (rest := st) ⟨hx, hb, hml, hown, hts⟩ hC ⟨va_cnB 1 hts (zgoodC hq.2.2.2.1) rfl rfl rfl (hq.1 _ hZ) (hts _ hq.2.2.1) hq.2.2.2.2 (zroom hf hn hf1 hf2), hts _ hq.2.1, trivial⟩ ⟨zblind, fun U hU hW => ⟨rfl, by rw [hU]; exact hP, va_K.moved hW.alike hK, zNest_warm hW hZ⟩⟩ rfl rfl hl.1 rfl (zcat hs) hd ⟨hc1, hc2⟩) hS (fun q _ h => h) (fun q h => h) (fun r u t H1 locs1 ht _ hw hB _ _ hS1 => by
    obtain ⟨z, rfl, hp⟩ := hw
    exact k z u hp H1 locs1 ls (by rw [← ht]; exact hB) hS1 hl)
theorem r_callN1v {K : zK} {X : zX} {cc : ByteArray} {own : String} {ret : Option FieldType} {nL f pc : Nat} {lo : List (Nat × Value)} {st : List Value} {ct : zE} {y : MethodName} {b : ByteArray} {nL2 f2 idx : Nat} {a1 : Value} {post : zE → Prop} (O : zO K X cc own ret nL f) (hC : zCv K y b nL2 f2 [a1] ct post) (hq : zQN own idx y b nL2 none 1) (hf : f2 + 1 ≤ f) (hn : nL2 ≤ 13) (hs : (st.map fun v => v.category).sum ≤ 8) (hd : decode cc pc = .ok (.invokestatic idx, 3)) (k : ∀ u : zE, post u → G K X nL (pc + 3) lo st u) : G K X nL pc lo (a1 ::  st) ct := by
  obtain ⟨l, D, A, ad, N, cI, cC, cS⟩ := K
  obtain ⟨p, e, R, s, m, args, below, meth, c, Q, cells, slots⟩ := X
  obtain ⟨hx, hb, hr, hml, hown, hts, hlk, hK, hZ, hI, hf1, hf2, hc1, hc2⟩ := O
  intro H locs ls hP hS hl
  exact va_callv (va_runSN (As := [a1]) (rest := st) ⟨hx, hb, hml, hown, hts⟩ hC ⟨va_cnB 1 hts (zgoodC hq.2.2.2.1) rfl rfl rfl (hq.1 _ hZ) (hts _ hq.2.2.1) hq.2.2.2.2 (zroom hf hn hf1 hf2), hts _ hq.2.1, trivial⟩ ⟨zblind, fun U hU hW => ⟨rfl, by rw [hU]; exact hP, va_K.moved hW.alike hK, zNest_warm hW hZ⟩⟩ rfl rfl hl.1 rfl (zcat hs) hd ⟨hc1, hc2⟩) hS (fun q _ h => h) (fun q h => h) (fun u t H1 locs1 ht _ hw hB _ _ hS1 => k u hw H1 locs1 ls (by rw [← ht]; exact hB) hS1 hl)
theorem r_callN2i {K : zK} {X : zX} {cc : ByteArray} {own : String} {ret : Option FieldType} {nL f pc : Nat} {lo : List (Nat × Value)} {st : List Value} {ct : zE} {y : MethodName} {b : ByteArray} {nL2 f2 idx : Nat} {rt : Option FieldType} {a1 a2 : Value} {post : Int → zE → Prop} (O : zO K X cc own ret nL f) (hC : zCi K y b nL2 rt f2 [a1, a2] ct post) (hq : zQN own idx y b nL2 rt 2) (hf : f2 + 1 ≤ f) (hn : nL2 ≤ 13) (hs : (st.map fun v => v.category).sum ≤ 8) (hd : decode cc pc = .ok (.invokestatic idx, 3)) (k : ∀ (z : Int) (u : zE), post z u → G K X nL (pc + 3) lo (.int (iI z) :: st) u) : G K X nL pc lo (a2 :: a1 ::  st) ct := by
  obtain ⟨l, D, A, ad, N, cI, cC, cS⟩ := K
  obtain ⟨p, e, R, s, m, args, below, meth, c, Q, cells, slots⟩ := X
  obtain ⟨hx, hb, hr, hml, hown, hts, hlk, hK, hZ, hI, hf1, hf2, hc1, hc2⟩ := O
  intro H locs ls hP hS hl
  exact va_calli (va_runSN (As := [a1, a2]) (rest := st) ⟨hx, hb, hml, hown, hts⟩ hC ⟨va_cnB 2 hts (zgoodC hq.2.2.2.1) rfl rfl rfl (hq.1 _ hZ) (hts _ hq.2.2.1) hq.2.2.2.2 (zroom hf hn hf1 hf2), hts _ hq.2.1, trivial⟩ ⟨zblind, fun U hU hW => ⟨rfl, by rw [hU]; exact hP, va_K.moved hW.alike hK, zNest_warm hW hZ⟩⟩ rfl rfl hl.1 rfl (zcat hs) hd ⟨hc1, hc2⟩) hS (fun q _ h => h) (fun q h => h) (fun r u t H1 locs1 ht _ hw hB _ _ hS1 => by
    obtain ⟨z, rfl, hp⟩ := hw
    exact k z u hp H1 locs1 ls (by rw [← ht]; exact hB) hS1 hl)
theorem r_callN2v {K : zK} {X : zX} {cc : ByteArray} {own : String} {ret : Option FieldType} {nL f pc : Nat} {lo : List (Nat × Value)} {st : List Value} {ct : zE} {y : MethodName} {b : ByteArray} {nL2 f2 idx : Nat} {a1 a2 : Value} {post : zE → Prop} (O : zO K X cc own ret nL f) (hC : zCv K y b nL2 f2 [a1, a2] ct post) (hq : zQN own idx y b nL2 none 2) (hf : f2 + 1 ≤ f) (hn : nL2 ≤ 13) (hs : (st.map fun v => v.category).sum ≤ 8) (hd : decode cc pc = .ok (.invokestatic idx, 3)) (k : ∀ u : zE, post u → G K X nL (pc + 3) lo st u) : G K X nL pc lo (a2 :: a1 ::  st) ct := by
  obtain ⟨l, D, A, ad, N, cI, cC, cS⟩ := K
  obtain ⟨p, e, R, s, m, args, below, meth, c, Q, cells, slots⟩ := X
  obtain ⟨hx, hb, hr, hml, hown, hts, hlk, hK, hZ, hI, hf1, hf2, hc1, hc2⟩ := O
  intro H locs ls hP hS hl
  exact va_callv (va_runSN (As := [a1, a2]) (rest := st) ⟨hx, hb, hml, hown, hts⟩ hC ⟨va_cnB 2 hts (zgoodC hq.2.2.2.1) rfl rfl rfl (hq.1 _ hZ) (hts _ hq.2.2.1) hq.2.2.2.2 (zroom hf hn hf1 hf2), hts _ hq.2.1, trivial⟩ ⟨zblind, fun U hU hW => ⟨rfl, by rw [hU]; exact hP, va_K.moved hW.alike hK, zNest_warm hW hZ⟩⟩ rfl rfl hl.1 rfl (zcat hs) hd ⟨hc1, hc2⟩) hS (fun q _ h => h) (fun q h => h) (fun u t H1 locs1 ht _ hw hB _ _ hS1 => k u hw H1 locs1 ls (by rw [← ht]; exact hB) hS1 hl)
theorem r_callN3i {K : zK} {X : zX} {cc : ByteArray} {own : String} {ret : Option FieldType} {nL f pc : Nat} {lo : List (Nat × Value)} {st : List Value} {ct : zE} {y : MethodName} {b : ByteArray} {nL2 f2 idx : Nat} {rt : Option FieldType} {a1 a2 a3 : Value} {post : Int → zE → Prop} (O : zO K X cc own ret nL f) (hC : zCi K y b nL2 rt f2 [a1, a2, a3] ct post) (hq : zQN own idx y b nL2 rt 3) (hf : f2 + 1 ≤ f) (hn : nL2 ≤ 13) (hs : (st.map fun v => v.category).sum ≤ 8) (hd : decode cc pc = .ok (.invokestatic idx, 3)) (k : ∀ (z : Int) (u : zE), post z u → G K X nL (pc + 3) lo (.int (iI z) :: st) u) : G K X nL pc lo (a3 :: a2 :: a1 ::  st) ct := by
  obtain ⟨l, D, A, ad, N, cI, cC, cS⟩ := K
  obtain ⟨p, e, R, s, m, args, below, meth, c, Q, cells, slots⟩ := X
  obtain ⟨hx, hb, hr, hml, hown, hts, hlk, hK, hZ, hI, hf1, hf2, hc1, hc2⟩ := O
  intro H locs ls hP hS hl
  exact va_calli (va_runSN (As := [a1, a2, a3]) (rest := st) ⟨hx, hb, hml, hown, hts⟩ hC ⟨va_cnB 3 hts (zgoodC hq.2.2.2.1) rfl rfl rfl (hq.1 _ hZ) (hts _ hq.2.2.1) hq.2.2.2.2 (zroom hf hn hf1 hf2), hts _ hq.2.1, trivial⟩ ⟨zblind, fun U hU hW => ⟨rfl, by rw [hU]; exact hP, va_K.moved hW.alike hK, zNest_warm hW hZ⟩⟩ rfl rfl hl.1 rfl (zcat hs) hd ⟨hc1, hc2⟩) hS (fun q _ h => h) (fun q h => h) (fun r u t H1 locs1 ht _ hw hB _ _ hS1 => by
    obtain ⟨z, rfl, hp⟩ := hw
    exact k z u hp H1 locs1 ls (by rw [← ht]; exact hB) hS1 hl)
theorem r_callN3v {K : zK} {X : zX} {cc : ByteArray} {own : String} {ret : Option FieldType} {nL f pc : Nat} {lo : List (Nat × Value)} {st : List Value} {ct : zE} {y : MethodName} {b : ByteArray} {nL2 f2 idx : Nat} {a1 a2 a3 : Value} {post : zE → Prop} (O : zO K X cc own ret nL f) (hC : zCv K y b nL2 f2 [a1, a2, a3] ct post) (hq : zQN own idx y b nL2 none 3) (hf : f2 + 1 ≤ f) (hn : nL2 ≤ 13) (hs : (st.map fun v => v.category).sum ≤ 8) (hd : decode cc pc = .ok (.invokestatic idx, 3)) (k : ∀ u : zE, post u → G K X nL (pc + 3) lo st u) : G K X nL pc lo (a3 :: a2 :: a1 ::  st) ct := by
  obtain ⟨l, D, A, ad, N, cI, cC, cS⟩ := K
  obtain ⟨p, e, R, s, m, args, below, meth, c, Q, cells, slots⟩ := X
  obtain ⟨hx, hb, hr, hml, hown, hts, hlk, hK, hZ, hI, hf1, hf2, hc1, hc2⟩ := O
  intro H locs ls hP hS hl
  exact va_callv (va_runSN (As := [a1, a2, a3]) (rest := st) ⟨hx, hb, hml, hown, hts⟩ hC ⟨va_cnB 3 hts (zgoodC hq.2.2.2.1) rfl rfl rfl (hq.1 _ hZ) (hts _ hq.2.2.1) hq.2.2.2.2 (zroom hf hn hf1 hf2), hts _ hq.2.1, trivial⟩ ⟨zblind, fun U hU hW => ⟨rfl, by rw [hU]; exact hP, va_K.moved hW.alike hK, zNest_warm hW hZ⟩⟩ rfl rfl hl.1 rfl (zcat hs) hd ⟨hc1, hc2⟩) hS (fun q _ h => h) (fun q h => h) (fun u t H1 locs1 ht _ hw hB _ _ hS1 => k u hw H1 locs1 ls (by rw [← ht]; exact hB) hS1 hl)
theorem r_callN4i {K : zK} {X : zX} {cc : ByteArray} {own : String} {ret : Option FieldType} {nL f pc : Nat} {lo : List (Nat × Value)} {st : List Value} {ct : zE} {y : MethodName} {b : ByteArray} {nL2 f2 idx : Nat} {rt : Option FieldType} {a1 a2 a3 a4 : Value} {post : Int → zE → Prop} (O : zO K X cc own ret nL f) (hC : zCi K y b nL2 rt f2 [a1, a2, a3, a4] ct post) (hq : zQN own idx y b nL2 rt 4) (hf : f2 + 1 ≤ f) (hn : nL2 ≤ 13) (hs : (st.map fun v => v.category).sum ≤ 8) (hd : decode cc pc = .ok (.invokestatic idx, 3)) (k : ∀ (z : Int) (u : zE), post z u → G K X nL (pc + 3) lo (.int (iI z) :: st) u) : G K X nL pc lo (a4 :: a3 :: a2 :: a1 ::  st) ct := by
  obtain ⟨l, D, A, ad, N, cI, cC, cS⟩ := K
  obtain ⟨p, e, R, s, m, args, below, meth, c, Q, cells, slots⟩ := X
  obtain ⟨hx, hb, hr, hml, hown, hts, hlk, hK, hZ, hI, hf1, hf2, hc1, hc2⟩ := O
  intro H locs ls hP hS hl
  exact va_calli (va_runSN (As := [a1, a2, a3, a4]) (rest := st) ⟨hx, hb, hml, hown, hts⟩ hC ⟨va_cnB 4 hts (zgoodC hq.2.2.2.1) rfl rfl rfl (hq.1 _ hZ) (hts _ hq.2.2.1) hq.2.2.2.2 (zroom hf hn hf1 hf2), hts _ hq.2.1, trivial⟩ ⟨zblind, fun U hU hW => ⟨rfl, by rw [hU]; exact hP, va_K.moved hW.alike hK, zNest_warm hW hZ⟩⟩ rfl rfl hl.1 rfl (zcat hs) hd ⟨hc1, hc2⟩) hS (fun q _ h => h) (fun q h => h) (fun r u t H1 locs1 ht _ hw hB _ _ hS1 => by
    obtain ⟨z, rfl, hp⟩ := hw
    exact k z u hp H1 locs1 ls (by rw [← ht]; exact hB) hS1 hl)
theorem r_callN4v {K : zK} {X : zX} {cc : ByteArray} {own : String} {ret : Option FieldType} {nL f pc : Nat} {lo : List (Nat × Value)} {st : List Value} {ct : zE} {y : MethodName} {b : ByteArray} {nL2 f2 idx : Nat} {a1 a2 a3 a4 : Value} {post : zE → Prop} (O : zO K X cc own ret nL f) (hC : zCv K y b nL2 f2 [a1, a2, a3, a4] ct post) (hq : zQN own idx y b nL2 none 4) (hf : f2 + 1 ≤ f) (hn : nL2 ≤ 13) (hs : (st.map fun v => v.category).sum ≤ 8) (hd : decode cc pc = .ok (.invokestatic idx, 3)) (k : ∀ u : zE, post u → G K X nL (pc + 3) lo st u) : G K X nL pc lo (a4 :: a3 :: a2 :: a1 ::  st) ct := by
  obtain ⟨l, D, A, ad, N, cI, cC, cS⟩ := K
  obtain ⟨p, e, R, s, m, args, below, meth, c, Q, cells, slots⟩ := X
  obtain ⟨hx, hb, hr, hml, hown, hts, hlk, hK, hZ, hI, hf1, hf2, hc1, hc2⟩ := O
  intro H locs ls hP hS hl
  exact va_callv (va_runSN (As := [a1, a2, a3, a4]) (rest := st) ⟨hx, hb, hml, hown, hts⟩ hC ⟨va_cnB 4 hts (zgoodC hq.2.2.2.1) rfl rfl rfl (hq.1 _ hZ) (hts _ hq.2.2.1) hq.2.2.2.2 (zroom hf hn hf1 hf2), hts _ hq.2.1, trivial⟩ ⟨zblind, fun U hU hW => ⟨rfl, by rw [hU]; exact hP, va_K.moved hW.alike hK, zNest_warm hW hZ⟩⟩ rfl rfl hl.1 rfl (zcat hs) hd ⟨hc1, hc2⟩) hS (fun q _ h => h) (fun q h => h) (fun u t H1 locs1 ht _ hw hB _ _ hS1 => k u hw H1 locs1 ls (by rw [← ht]; exact hB) hS1 hl)
end
section
theorem zmem0 {w : Cond} (h : w ∈ k2_sels lw_privs) : w ∈ lw_tbl := List.mem_append_left _ h
theorem zmem1 {w : Cond} (h : w ∈ tables_1_1) : w ∈ lw_tbl := List.mem_append_right _ (List.mem_append_left _ h)
theorem zmem2 {w : Cond} (h : w ∈ tables_1_2) : w ∈ lw_tbl := List.mem_append_right _ (List.mem_append_right _ (List.mem_append_left _ h))
theorem zmem3 {w : Cond} (h : w ∈ tables_1_3) : w ∈ lw_tbl := List.mem_append_right _ (List.mem_append_right _ (List.mem_append_right _ (List.mem_append_left _ h)))
theorem zmem4 {w : Cond} (h : w ∈ tables_1_4) : w ∈ lw_tbl := List.mem_append_right _ (List.mem_append_right _ (List.mem_append_right _ (List.mem_append_right _ h)))
theorem zc_X0_init : Cond.code yX0_init cX0_init 3 none ∈ zTB := zTB_of (zmem1 (List.mem_of_getElem? (i := 132) rfl)) rfl
theorem zi_X0_init : Cond.instanceMethod yX0_init ∈ zTB := zTB_of (zmem1 (List.mem_of_getElem? (i := 131) rfl)) rfl
theorem zc_X0_clear : Cond.code yX0_clear cX0_clear 1 none ∈ zTB := zTB_of (zmem2 (List.mem_of_getElem? (i := 73) rfl)) rfl
theorem zy_X0_clear : Cond.instanceMethod yX0_clear ∈ zTB ∧ Cond.selects yX0_clear.cls yX0_clear yX0_clear ∈ zTB ∧ Cond.initialized yX0_clear.cls ∈ zTB ∧ Cond.code yX0_clear cX0_clear 1 none ∈ zTB ∧ zDs yX0_clear 0 := ⟨zTB_of (zmem2 (List.mem_of_getElem? (i := 71) rfl)) rfl, zTB_of (zmem2 (List.mem_of_getElem? (i := 72) rfl)) rfl, zTB_of (zmem1 (List.mem_of_getElem? (i := 6) rfl)) rfl, zc_X0_clear, by decide +kernel, by decide +kernel, by decide +kernel⟩
theorem zc_X0_put : Cond.code yX0_put cX0_put 2 none ∈ zTB := zTB_of (zmem2 (List.mem_of_getElem? (i := 103) rfl)) rfl
theorem zy_X0_put : Cond.instanceMethod yX0_put ∈ zTB ∧ Cond.selects yX0_put.cls yX0_put yX0_put ∈ zTB ∧ Cond.initialized yX0_put.cls ∈ zTB ∧ Cond.code yX0_put cX0_put 2 none ∈ zTB ∧ zDs yX0_put 1 := ⟨zTB_of (zmem2 (List.mem_of_getElem? (i := 101) rfl)) rfl, zTB_of (zmem2 (List.mem_of_getElem? (i := 102) rfl)) rfl, zTB_of (zmem1 (List.mem_of_getElem? (i := 6) rfl)) rfl, zc_X0_put, by decide +kernel, by decide +kernel, by decide +kernel⟩
theorem zc_X0_dropLowest : Cond.code yX0_dropLowest cX0_dropLowest 3 none ∈ zTB := zTB_of (zmem2 (List.mem_of_getElem? (i := 107) rfl)) rfl
theorem zy_X0_dropLowest : Cond.instanceMethod yX0_dropLowest ∈ zTB ∧ Cond.selects yX0_dropLowest.cls yX0_dropLowest yX0_dropLowest ∈ zTB ∧ Cond.initialized yX0_dropLowest.cls ∈ zTB ∧ Cond.code yX0_dropLowest cX0_dropLowest 3 none ∈ zTB ∧ zDs yX0_dropLowest 0 := ⟨zTB_of (zmem2 (List.mem_of_getElem? (i := 106) rfl)) rfl, zTB_of (zmem0 (List.mem_of_getElem? (i := 8) rfl)) rfl, zTB_of (zmem1 (List.mem_of_getElem? (i := 6) rfl)) rfl, zc_X0_dropLowest, by decide +kernel, by decide +kernel, by decide +kernel⟩
theorem zc_X0_takeLast : Cond.code yX0_takeLast cX0_takeLast 2 (some .boolean) ∈ zTB := zTB_of (zmem2 (List.mem_of_getElem? (i := 175) rfl)) rfl
theorem zy_X0_takeLast : Cond.instanceMethod yX0_takeLast ∈ zTB ∧ Cond.selects yX0_takeLast.cls yX0_takeLast yX0_takeLast ∈ zTB ∧ Cond.initialized yX0_takeLast.cls ∈ zTB ∧ Cond.code yX0_takeLast cX0_takeLast 2 (some .boolean) ∈ zTB ∧ zDs yX0_takeLast 1 := ⟨zTB_of (zmem2 (List.mem_of_getElem? (i := 173) rfl)) rfl, zTB_of (zmem2 (List.mem_of_getElem? (i := 174) rfl)) rfl, zTB_of (zmem1 (List.mem_of_getElem? (i := 6) rfl)) rfl, zc_X0_takeLast, by decide +kernel, by decide +kernel, by decide +kernel⟩
theorem zc_X1_init : Cond.code yX1_init cX1_init 1 none ∈ zTB := zTB_of (zmem1 (List.mem_of_getElem? (i := 99) rfl)) rfl
theorem zi_X1_init : Cond.instanceMethod yX1_init ∈ zTB := zTB_of (zmem1 (List.mem_of_getElem? (i := 98) rfl)) rfl
theorem zc_X1_measure : Cond.code yX1_measure cX1_measure 3 none ∈ zTB := zTB_of (zmem2 (List.mem_of_getElem? (i := 230) rfl)) rfl
theorem zy_X1_measure : Cond.instanceMethod yX1_measure ∈ zTB ∧ Cond.selects yX1_measure.cls yX1_measure yX1_measure ∈ zTB ∧ Cond.initialized yX1_measure.cls ∈ zTB ∧ Cond.code yX1_measure cX1_measure 3 none ∈ zTB ∧ zDs yX1_measure 1 := ⟨zTB_of (zmem2 (List.mem_of_getElem? (i := 228) rfl)) rfl, zTB_of (zmem2 (List.mem_of_getElem? (i := 229) rfl)) rfl, zTB_of (zmem1 (List.mem_of_getElem? (i := 4) rfl)) rfl, zc_X1_measure, by decide +kernel, by decide +kernel, by decide +kernel⟩
theorem zc_X1_howMany : Cond.code yX1_howMany cX1_howMany 1 (some .int) ∈ zTB := zTB_of (zmem2 (List.mem_of_getElem? (i := 239) rfl)) rfl
theorem zy_X1_howMany : Cond.instanceMethod yX1_howMany ∈ zTB ∧ Cond.selects yX1_howMany.cls yX1_howMany yX1_howMany ∈ zTB ∧ Cond.initialized yX1_howMany.cls ∈ zTB ∧ Cond.code yX1_howMany cX1_howMany 1 (some .int) ∈ zTB ∧ zDs yX1_howMany 0 := ⟨zTB_of (zmem2 (List.mem_of_getElem? (i := 238) rfl)) rfl, zTB_of (zmem0 (List.mem_of_getElem? (i := 10) rfl)) rfl, zTB_of (zmem1 (List.mem_of_getElem? (i := 4) rfl)) rfl, zc_X1_howMany, by decide +kernel, by decide +kernel, by decide +kernel⟩
theorem zc_X1_letsPass : Cond.code yX1_letsPass cX1_letsPass 4 (some .boolean) ∈ zTB := zTB_of (zmem3 (List.mem_of_getElem? (i := 3) rfl)) rfl
theorem zy_X1_letsPass : Cond.instanceMethod yX1_letsPass ∈ zTB ∧ Cond.selects yX1_letsPass.cls yX1_letsPass yX1_letsPass ∈ zTB ∧ Cond.initialized yX1_letsPass.cls ∈ zTB ∧ Cond.code yX1_letsPass cX1_letsPass 4 (some .boolean) ∈ zTB ∧ zDs yX1_letsPass 1 := ⟨zTB_of (zmem3 (List.mem_of_getElem? (i := 2) rfl)) rfl, zTB_of (zmem0 (List.mem_of_getElem? (i := 11) rfl)) rfl, zTB_of (zmem1 (List.mem_of_getElem? (i := 4) rfl)) rfl, zc_X1_letsPass, by decide +kernel, by decide +kernel, by decide +kernel⟩
theorem zc_X1_isIn : Cond.code yX1_isIn cX1_isIn 2 (some .boolean) ∈ zTB := zTB_of (zmem3 (List.mem_of_getElem? (i := 6) rfl)) rfl
theorem zy_X1_isIn : Cond.static yX1_isIn ∈ zTB ∧ Cond.initialized yX1_isIn.cls ∈ zTB ∧ Cond.code yX1_isIn cX1_isIn 2 (some .boolean) ∈ zTB ∧ zDs yX1_isIn 2 := ⟨zTB_of (zmem3 (List.mem_of_getElem? (i := 5) rfl)) rfl, zTB_of (zmem1 (List.mem_of_getElem? (i := 4) rfl)) rfl, zc_X1_isIn, by decide +kernel, by decide +kernel, by decide +kernel⟩
theorem zc_X1_fewest : Cond.code yX1_fewest cX1_fewest 3 (some .int) ∈ zTB := zTB_of (zmem2 (List.mem_of_getElem? (i := 235) rfl)) rfl
theorem zy_X1_fewest : Cond.instanceMethod yX1_fewest ∈ zTB ∧ Cond.selects yX1_fewest.cls yX1_fewest yX1_fewest ∈ zTB ∧ Cond.initialized yX1_fewest.cls ∈ zTB ∧ Cond.code yX1_fewest cX1_fewest 3 (some .int) ∈ zTB ∧ zDs yX1_fewest 0 := ⟨zTB_of (zmem2 (List.mem_of_getElem? (i := 233) rfl)) rfl, zTB_of (zmem2 (List.mem_of_getElem? (i := 234) rfl)) rfl, zTB_of (zmem1 (List.mem_of_getElem? (i := 4) rfl)) rfl, zc_X1_fewest, by decide +kernel, by decide +kernel, by decide +kernel⟩
theorem zc_X1_orders : Cond.code yX1_orders cX1_orders 1 (some .int) ∈ zTB := zTB_of (zmem3 (List.mem_of_getElem? (i := 32) rfl)) rfl
theorem zy_X1_orders : Cond.instanceMethod yX1_orders ∈ zTB ∧ Cond.selects yX1_orders.cls yX1_orders yX1_orders ∈ zTB ∧ Cond.initialized yX1_orders.cls ∈ zTB ∧ Cond.code yX1_orders cX1_orders 1 (some .int) ∈ zTB ∧ zDs yX1_orders 0 := ⟨zTB_of (zmem3 (List.mem_of_getElem? (i := 30) rfl)) rfl, zTB_of (zmem3 (List.mem_of_getElem? (i := 31) rfl)) rfl, zTB_of (zmem1 (List.mem_of_getElem? (i := 4) rfl)) rfl, zc_X1_orders, by decide +kernel, by decide +kernel, by decide +kernel⟩
theorem zc_X1_ordersDecidedBy : Cond.code yX1_ordersDecidedBy cX1_ordersDecidedBy 5 (some .int) ∈ zTB := zTB_of (zmem3 (List.mem_of_getElem? (i := 25) rfl)) rfl
theorem zy_X1_ordersDecidedBy : Cond.instanceMethod yX1_ordersDecidedBy ∈ zTB ∧ Cond.selects yX1_ordersDecidedBy.cls yX1_ordersDecidedBy yX1_ordersDecidedBy ∈ zTB ∧ Cond.initialized yX1_ordersDecidedBy.cls ∈ zTB ∧ Cond.code yX1_ordersDecidedBy cX1_ordersDecidedBy 5 (some .int) ∈ zTB ∧ zDs yX1_ordersDecidedBy 1 := ⟨zTB_of (zmem3 (List.mem_of_getElem? (i := 23) rfl)) rfl, zTB_of (zmem3 (List.mem_of_getElem? (i := 24) rfl)) rfl, zTB_of (zmem1 (List.mem_of_getElem? (i := 4) rfl)) rfl, zc_X1_ordersDecidedBy, by decide +kernel, by decide +kernel, by decide +kernel⟩
theorem zc_X1_factorial : Cond.code yX1_factorial cX1_factorial 3 (some .int) ∈ zTB := zTB_of (zmem3 (List.mem_of_getElem? (i := 28) rfl)) rfl
theorem zy_X1_factorial : Cond.static yX1_factorial ∈ zTB ∧ Cond.initialized yX1_factorial.cls ∈ zTB ∧ Cond.code yX1_factorial cX1_factorial 3 (some .int) ∈ zTB ∧ zDs yX1_factorial 1 := ⟨zTB_of (zmem3 (List.mem_of_getElem? (i := 27) rfl)) rfl, zTB_of (zmem1 (List.mem_of_getElem? (i := 4) rfl)) rfl, zc_X1_factorial, by decide +kernel, by decide +kernel, by decide +kernel⟩
theorem zc_X1_cases : Cond.code yX1_cases cX1_cases 3 (some .int) ∈ zTB := zTB_of (zmem3 (List.mem_of_getElem? (i := 76) rfl)) rfl
theorem zy_X1_cases : Cond.instanceMethod yX1_cases ∈ zTB ∧ Cond.selects yX1_cases.cls yX1_cases yX1_cases ∈ zTB ∧ Cond.initialized yX1_cases.cls ∈ zTB ∧ Cond.code yX1_cases cX1_cases 3 (some .int) ∈ zTB ∧ zDs yX1_cases 0 := ⟨zTB_of (zmem3 (List.mem_of_getElem? (i := 74) rfl)) rfl, zTB_of (zmem3 (List.mem_of_getElem? (i := 75) rfl)) rfl, zTB_of (zmem1 (List.mem_of_getElem? (i := 4) rfl)) rfl, zc_X1_cases, by decide +kernel, by decide +kernel, by decide +kernel⟩
theorem zc_X1_passingCasesBy : Cond.code yX1_passingCasesBy cX1_passingCasesBy 4 (some .int) ∈ zTB := zTB_of (zmem3 (List.mem_of_getElem? (i := 68) rfl)) rfl
theorem zy_X1_passingCasesBy : Cond.instanceMethod yX1_passingCasesBy ∈ zTB ∧ Cond.selects yX1_passingCasesBy.cls yX1_passingCasesBy yX1_passingCasesBy ∈ zTB ∧ Cond.initialized yX1_passingCasesBy.cls ∈ zTB ∧ Cond.code yX1_passingCasesBy cX1_passingCasesBy 4 (some .int) ∈ zTB ∧ zDs yX1_passingCasesBy 1 := ⟨zTB_of (zmem3 (List.mem_of_getElem? (i := 66) rfl)) rfl, zTB_of (zmem3 (List.mem_of_getElem? (i := 67) rfl)) rfl, zTB_of (zmem1 (List.mem_of_getElem? (i := 4) rfl)) rfl, zc_X1_passingCasesBy, by decide +kernel, by decide +kernel, by decide +kernel⟩
theorem zc_X1_casesOf : Cond.code yX1_casesOf cX1_casesOf 5 (some .int) ∈ zTB := zTB_of (zmem3 (List.mem_of_getElem? (i := 72) rfl)) rfl
theorem zy_X1_casesOf : Cond.instanceMethod yX1_casesOf ∈ zTB ∧ Cond.selects yX1_casesOf.cls yX1_casesOf yX1_casesOf ∈ zTB ∧ Cond.initialized yX1_casesOf.cls ∈ zTB ∧ Cond.code yX1_casesOf cX1_casesOf 5 (some .int) ∈ zTB ∧ zDs yX1_casesOf 2 := ⟨zTB_of (zmem3 (List.mem_of_getElem? (i := 71) rfl)) rfl, zTB_of (zmem0 (List.mem_of_getElem? (i := 12) rfl)) rfl, zTB_of (zmem1 (List.mem_of_getElem? (i := 4) rfl)) rfl, zc_X1_casesOf, by decide +kernel, by decide +kernel, by decide +kernel⟩
theorem zc_X2_init : Cond.code yX2_init cX2_init 1 none ∈ zTB := zTB_of (zmem1 (List.mem_of_getElem? (i := 115) rfl)) rfl
theorem zi_X2_init : Cond.instanceMethod yX2_init ∈ zTB := zTB_of (zmem1 (List.mem_of_getElem? (i := 114) rfl)) rfl
theorem zc_X2_clear : Cond.code yX2_clear cX2_clear 1 none ∈ zTB := zTB_of (zmem2 (List.mem_of_getElem? (i := 69) rfl)) rfl
theorem zy_X2_clear : Cond.instanceMethod yX2_clear ∈ zTB ∧ Cond.selects yX2_clear.cls yX2_clear yX2_clear ∈ zTB ∧ Cond.initialized yX2_clear.cls ∈ zTB ∧ Cond.code yX2_clear cX2_clear 1 none ∈ zTB ∧ zDs yX2_clear 0 := ⟨zTB_of (zmem2 (List.mem_of_getElem? (i := 67) rfl)) rfl, zTB_of (zmem2 (List.mem_of_getElem? (i := 68) rfl)) rfl, zTB_of (zmem1 (List.mem_of_getElem? (i := 5) rfl)) rfl, zc_X2_clear, by decide +kernel, by decide +kernel, by decide +kernel⟩
theorem zc_X2_add : Cond.code yX2_add cX2_add 3 (some .boolean) ∈ zTB := zTB_of (zmem3 (List.mem_of_getElem? (i := 46) rfl)) rfl
theorem zy_X2_add : Cond.instanceMethod yX2_add ∈ zTB ∧ Cond.selects yX2_add.cls yX2_add yX2_add ∈ zTB ∧ Cond.initialized yX2_add.cls ∈ zTB ∧ Cond.code yX2_add cX2_add 3 (some .boolean) ∈ zTB ∧ zDs yX2_add 2 := ⟨zTB_of (zmem3 (List.mem_of_getElem? (i := 44) rfl)) rfl, zTB_of (zmem3 (List.mem_of_getElem? (i := 45) rfl)) rfl, zTB_of (zmem1 (List.mem_of_getElem? (i := 5) rfl)) rfl, zc_X2_add, by decide +kernel, by decide +kernel, by decide +kernel⟩
theorem zc_X2_allSoBetween : Cond.code yX2_allSoBetween cX2_allSoBetween 5 (some .boolean) ∈ zTB := zTB_of (zmem3 (List.mem_of_getElem? (i := 60) rfl)) rfl
theorem zy_X2_allSoBetween : Cond.instanceMethod yX2_allSoBetween ∈ zTB ∧ Cond.selects yX2_allSoBetween.cls yX2_allSoBetween yX2_allSoBetween ∈ zTB ∧ Cond.initialized yX2_allSoBetween.cls ∈ zTB ∧ Cond.code yX2_allSoBetween cX2_allSoBetween 5 (some .boolean) ∈ zTB ∧ zDs yX2_allSoBetween 2 := ⟨zTB_of (zmem3 (List.mem_of_getElem? (i := 58) rfl)) rfl, zTB_of (zmem3 (List.mem_of_getElem? (i := 59) rfl)) rfl, zTB_of (zmem1 (List.mem_of_getElem? (i := 5) rfl)) rfl, zc_X2_allSoBetween, by decide +kernel, by decide +kernel, by decide +kernel⟩
theorem zc_X3_init : Cond.code yX3_init cX3_init 1 none ∈ zTB := zTB_of (zmem1 (List.mem_of_getElem? (i := 46) rfl)) rfl
theorem zi_X3_init : Cond.instanceMethod yX3_init ∈ zTB := zTB_of (zmem1 (List.mem_of_getElem? (i := 45) rfl)) rfl
theorem zc_X3_clear : Cond.code yX3_clear cX3_clear 1 none ∈ zTB := zTB_of (zmem1 (List.mem_of_getElem? (i := 208) rfl)) rfl
theorem zy_X3_clear : Cond.instanceMethod yX3_clear ∈ zTB ∧ Cond.selects yX3_clear.cls yX3_clear yX3_clear ∈ zTB ∧ Cond.initialized yX3_clear.cls ∈ zTB ∧ Cond.code yX3_clear cX3_clear 1 none ∈ zTB ∧ zDs yX3_clear 0 := ⟨zTB_of (zmem1 (List.mem_of_getElem? (i := 206) rfl)) rfl, zTB_of (zmem1 (List.mem_of_getElem? (i := 207) rfl)) rfl, zTB_of (zmem1 (List.mem_of_getElem? (i := 3) rfl)) rfl, zc_X3_clear, by decide +kernel, by decide +kernel, by decide +kernel⟩
theorem zc_X3_takeMember : Cond.code yX3_takeMember cX3_takeMember 5 (some .boolean) ∈ zTB := zTB_of (zmem1 (List.mem_of_getElem? (i := 239) rfl)) rfl
theorem zy_X3_takeMember : Cond.instanceMethod yX3_takeMember ∈ zTB ∧ Cond.selects yX3_takeMember.cls yX3_takeMember yX3_takeMember ∈ zTB ∧ Cond.initialized yX3_takeMember.cls ∈ zTB ∧ Cond.code yX3_takeMember cX3_takeMember 5 (some .boolean) ∈ zTB ∧ zDs yX3_takeMember 4 := ⟨zTB_of (zmem1 (List.mem_of_getElem? (i := 237) rfl)) rfl, zTB_of (zmem1 (List.mem_of_getElem? (i := 238) rfl)) rfl, zTB_of (zmem1 (List.mem_of_getElem? (i := 3) rfl)) rfl, zc_X3_takeMember, by decide +kernel, by decide +kernel, by decide +kernel⟩
theorem zc_X3_takePot : Cond.code yX3_takePot cX3_takePot 4 (some .boolean) ∈ zTB := zTB_of (zmem2 (List.mem_of_getElem? (i := 6) rfl)) rfl
theorem zy_X3_takePot : Cond.instanceMethod yX3_takePot ∈ zTB ∧ Cond.selects yX3_takePot.cls yX3_takePot yX3_takePot ∈ zTB ∧ Cond.initialized yX3_takePot.cls ∈ zTB ∧ Cond.code yX3_takePot cX3_takePot 4 (some .boolean) ∈ zTB ∧ zDs yX3_takePot 3 := ⟨zTB_of (zmem2 (List.mem_of_getElem? (i := 4) rfl)) rfl, zTB_of (zmem2 (List.mem_of_getElem? (i := 5) rfl)) rfl, zTB_of (zmem1 (List.mem_of_getElem? (i := 3) rfl)) rfl, zc_X3_takePot, by decide +kernel, by decide +kernel, by decide +kernel⟩
theorem zc_X3_takeRounds : Cond.code yX3_takeRounds cX3_takeRounds 2 (some .boolean) ∈ zTB := zTB_of (zmem2 (List.mem_of_getElem? (i := 10) rfl)) rfl
theorem zy_X3_takeRounds : Cond.instanceMethod yX3_takeRounds ∈ zTB ∧ Cond.selects yX3_takeRounds.cls yX3_takeRounds yX3_takeRounds ∈ zTB ∧ Cond.initialized yX3_takeRounds.cls ∈ zTB ∧ Cond.code yX3_takeRounds cX3_takeRounds 2 (some .boolean) ∈ zTB ∧ zDs yX3_takeRounds 1 := ⟨zTB_of (zmem2 (List.mem_of_getElem? (i := 8) rfl)) rfl, zTB_of (zmem2 (List.mem_of_getElem? (i := 9) rfl)) rfl, zTB_of (zmem1 (List.mem_of_getElem? (i := 3) rfl)) rfl, zc_X3_takeRounds, by decide +kernel, by decide +kernel, by decide +kernel⟩
theorem zc_X3_takeFastHunger : Cond.code yX3_takeFastHunger cX3_takeFastHunger 2 (some .boolean) ∈ zTB := zTB_of (zmem2 (List.mem_of_getElem? (i := 14) rfl)) rfl
theorem zy_X3_takeFastHunger : Cond.instanceMethod yX3_takeFastHunger ∈ zTB ∧ Cond.selects yX3_takeFastHunger.cls yX3_takeFastHunger yX3_takeFastHunger ∈ zTB ∧ Cond.initialized yX3_takeFastHunger.cls ∈ zTB ∧ Cond.code yX3_takeFastHunger cX3_takeFastHunger 2 (some .boolean) ∈ zTB ∧ zDs yX3_takeFastHunger 1 := ⟨zTB_of (zmem2 (List.mem_of_getElem? (i := 12) rfl)) rfl, zTB_of (zmem2 (List.mem_of_getElem? (i := 13) rfl)) rfl, zTB_of (zmem1 (List.mem_of_getElem? (i := 3) rfl)) rfl, zc_X3_takeFastHunger, by decide +kernel, by decide +kernel, by decide +kernel⟩
theorem zc_X3_takeOver : Cond.code yX3_takeOver cX3_takeOver 2 none ∈ zTB := zTB_of (zmem2 (List.mem_of_getElem? (i := 62) rfl)) rfl
theorem zy_X3_takeOver : Cond.instanceMethod yX3_takeOver ∈ zTB ∧ Cond.selects yX3_takeOver.cls yX3_takeOver yX3_takeOver ∈ zTB ∧ Cond.initialized yX3_takeOver.cls ∈ zTB ∧ Cond.code yX3_takeOver cX3_takeOver 2 none ∈ zTB ∧ zDs yX3_takeOver 1 := ⟨zTB_of (zmem2 (List.mem_of_getElem? (i := 60) rfl)) rfl, zTB_of (zmem2 (List.mem_of_getElem? (i := 61) rfl)) rfl, zTB_of (zmem1 (List.mem_of_getElem? (i := 3) rfl)) rfl, zc_X3_takeOver, by decide +kernel, by decide +kernel, by decide +kernel⟩
theorem zc_X3_share : Cond.code yX3_share cX3_share 2 (some .int) ∈ zTB := zTB_of (zmem2 (List.mem_of_getElem? (i := 85) rfl)) rfl
theorem zy_X3_share : Cond.instanceMethod yX3_share ∈ zTB ∧ Cond.selects yX3_share.cls yX3_share yX3_share ∈ zTB ∧ Cond.initialized yX3_share.cls ∈ zTB ∧ Cond.code yX3_share cX3_share 2 (some .int) ∈ zTB ∧ zDs yX3_share 1 := ⟨zTB_of (zmem2 (List.mem_of_getElem? (i := 83) rfl)) rfl, zTB_of (zmem2 (List.mem_of_getElem? (i := 84) rfl)) rfl, zTB_of (zmem1 (List.mem_of_getElem? (i := 3) rfl)) rfl, zc_X3_share, by decide +kernel, by decide +kernel, by decide +kernel⟩
theorem zc_X3_spoonful : Cond.code yX3_spoonful cX3_spoonful 3 (some .int) ∈ zTB := zTB_of (zmem2 (List.mem_of_getElem? (i := 89) rfl)) rfl
theorem zy_X3_spoonful : Cond.instanceMethod yX3_spoonful ∈ zTB ∧ Cond.selects yX3_spoonful.cls yX3_spoonful yX3_spoonful ∈ zTB ∧ Cond.initialized yX3_spoonful.cls ∈ zTB ∧ Cond.code yX3_spoonful cX3_spoonful 3 (some .int) ∈ zTB ∧ zDs yX3_spoonful 2 := ⟨zTB_of (zmem2 (List.mem_of_getElem? (i := 88) rfl)) rfl, zTB_of (zmem0 (List.mem_of_getElem? (i := 7) rfl)) rfl, zTB_of (zmem1 (List.mem_of_getElem? (i := 3) rfl)) rfl, zc_X3_spoonful, by decide +kernel, by decide +kernel, by decide +kernel⟩
theorem zc_X3_hottestFor : Cond.code yX3_hottestFor cX3_hottestFor 1 (some .int) ∈ zTB := zTB_of (zmem2 (List.mem_of_getElem? (i := 92) rfl)) rfl
theorem zy_X3_hottestFor : Cond.static yX3_hottestFor ∈ zTB ∧ Cond.initialized yX3_hottestFor.cls ∈ zTB ∧ Cond.code yX3_hottestFor cX3_hottestFor 1 (some .int) ∈ zTB ∧ zDs yX3_hottestFor 1 := ⟨zTB_of (zmem2 (List.mem_of_getElem? (i := 91) rfl)) rfl, zTB_of (zmem1 (List.mem_of_getElem? (i := 3) rfl)) rfl, zc_X3_hottestFor, by decide +kernel, by decide +kernel, by decide +kernel⟩
theorem zc_X3_eatRound : Cond.code yX3_eatRound cX3_eatRound 4 (some .int) ∈ zTB := zTB_of (zmem2 (List.mem_of_getElem? (i := 116) rfl)) rfl
theorem zy_X3_eatRound : Cond.instanceMethod yX3_eatRound ∈ zTB ∧ Cond.selects yX3_eatRound.cls yX3_eatRound yX3_eatRound ∈ zTB ∧ Cond.initialized yX3_eatRound.cls ∈ zTB ∧ Cond.code yX3_eatRound cX3_eatRound 4 (some .int) ∈ zTB ∧ zDs yX3_eatRound 0 := ⟨zTB_of (zmem2 (List.mem_of_getElem? (i := 114) rfl)) rfl, zTB_of (zmem2 (List.mem_of_getElem? (i := 115) rfl)) rfl, zTB_of (zmem1 (List.mem_of_getElem? (i := 3) rfl)) rfl, zc_X3_eatRound, by decide +kernel, by decide +kernel, by decide +kernel⟩
theorem zc_X3_eatRounds : Cond.code yX3_eatRounds cX3_eatRounds 5 (some .int) ∈ zTB := zTB_of (zmem2 (List.mem_of_getElem? (i := 112) rfl)) rfl
theorem zy_X3_eatRounds : Cond.instanceMethod yX3_eatRounds ∈ zTB ∧ Cond.selects yX3_eatRounds.cls yX3_eatRounds yX3_eatRounds ∈ zTB ∧ Cond.initialized yX3_eatRounds.cls ∈ zTB ∧ Cond.code yX3_eatRounds cX3_eatRounds 5 (some .int) ∈ zTB ∧ zDs yX3_eatRounds 1 := ⟨zTB_of (zmem2 (List.mem_of_getElem? (i := 110) rfl)) rfl, zTB_of (zmem2 (List.mem_of_getElem? (i := 111) rfl)) rfl, zTB_of (zmem1 (List.mem_of_getElem? (i := 3) rfl)) rfl, zc_X3_eatRounds, by decide +kernel, by decide +kernel, by decide +kernel⟩
theorem zc_X3_roundsUntilEmpty : Cond.code yX3_roundsUntilEmpty cX3_roundsUntilEmpty 2 (some .int) ∈ zTB := zTB_of (zmem2 (List.mem_of_getElem? (i := 184) rfl)) rfl
theorem zy_X3_roundsUntilEmpty : Cond.instanceMethod yX3_roundsUntilEmpty ∈ zTB ∧ Cond.selects yX3_roundsUntilEmpty.cls yX3_roundsUntilEmpty yX3_roundsUntilEmpty ∈ zTB ∧ Cond.initialized yX3_roundsUntilEmpty.cls ∈ zTB ∧ Cond.code yX3_roundsUntilEmpty cX3_roundsUntilEmpty 2 (some .int) ∈ zTB ∧ zDs yX3_roundsUntilEmpty 0 := ⟨zTB_of (zmem2 (List.mem_of_getElem? (i := 182) rfl)) rfl, zTB_of (zmem2 (List.mem_of_getElem? (i := 183) rfl)) rfl, zTB_of (zmem1 (List.mem_of_getElem? (i := 3) rfl)) rfl, zc_X3_roundsUntilEmpty, by decide +kernel, by decide +kernel, by decide +kernel⟩
theorem zc_X3_reach : Cond.code yX3_reach cX3_reach 4 (some .int) ∈ zTB := zTB_of (zmem2 (List.mem_of_getElem? (i := 208) rfl)) rfl
theorem zy_X3_reach : Cond.instanceMethod yX3_reach ∈ zTB ∧ Cond.selects yX3_reach.cls yX3_reach yX3_reach ∈ zTB ∧ Cond.initialized yX3_reach.cls ∈ zTB ∧ Cond.code yX3_reach cX3_reach 4 (some .int) ∈ zTB ∧ zDs yX3_reach 1 := ⟨zTB_of (zmem2 (List.mem_of_getElem? (i := 206) rfl)) rfl, zTB_of (zmem2 (List.mem_of_getElem? (i := 207) rfl)) rfl, zTB_of (zmem1 (List.mem_of_getElem? (i := 3) rfl)) rfl, zc_X3_reach, by decide +kernel, by decide +kernel, by decide +kernel⟩
theorem zc_X3_reachOfAll : Cond.code yX3_reachOfAll cX3_reachOfAll 3 (some .int) ∈ zTB := zTB_of (zmem2 (List.mem_of_getElem? (i := 204) rfl)) rfl
theorem zy_X3_reachOfAll : Cond.instanceMethod yX3_reachOfAll ∈ zTB ∧ Cond.selects yX3_reachOfAll.cls yX3_reachOfAll yX3_reachOfAll ∈ zTB ∧ Cond.initialized yX3_reachOfAll.cls ∈ zTB ∧ Cond.code yX3_reachOfAll cX3_reachOfAll 3 (some .int) ∈ zTB ∧ zDs yX3_reachOfAll 0 := ⟨zTB_of (zmem2 (List.mem_of_getElem? (i := 202) rfl)) rfl, zTB_of (zmem2 (List.mem_of_getElem? (i := 203) rfl)) rfl, zTB_of (zmem1 (List.mem_of_getElem? (i := 3) rfl)) rfl, zc_X3_reachOfAll, by decide +kernel, by decide +kernel, by decide +kernel⟩
theorem zc_X3_wouldPass : Cond.code yX3_wouldPass cX3_wouldPass 1 (some .boolean) ∈ zTB := zTB_of (zmem2 (List.mem_of_getElem? (i := 200) rfl)) rfl
theorem zy_X3_wouldPass : Cond.instanceMethod yX3_wouldPass ∈ zTB ∧ Cond.selects yX3_wouldPass.cls yX3_wouldPass yX3_wouldPass ∈ zTB ∧ Cond.initialized yX3_wouldPass.cls ∈ zTB ∧ Cond.code yX3_wouldPass cX3_wouldPass 1 (some .boolean) ∈ zTB ∧ zDs yX3_wouldPass 0 := ⟨zTB_of (zmem2 (List.mem_of_getElem? (i := 198) rfl)) rfl, zTB_of (zmem2 (List.mem_of_getElem? (i := 199) rfl)) rfl, zTB_of (zmem1 (List.mem_of_getElem? (i := 3) rfl)) rfl, zc_X3_wouldPass, by decide +kernel, by decide +kernel, by decide +kernel⟩
theorem zc_X3_putSalt : Cond.code yX3_putSalt cX3_putSalt 1 none ∈ zTB := zTB_of (zmem2 (List.mem_of_getElem? (i := 130) rfl)) rfl
theorem zy_X3_putSalt : Cond.instanceMethod yX3_putSalt ∈ zTB ∧ Cond.selects yX3_putSalt.cls yX3_putSalt yX3_putSalt ∈ zTB ∧ Cond.initialized yX3_putSalt.cls ∈ zTB ∧ Cond.code yX3_putSalt cX3_putSalt 1 none ∈ zTB ∧ zDs yX3_putSalt 0 := ⟨zTB_of (zmem2 (List.mem_of_getElem? (i := 128) rfl)) rfl, zTB_of (zmem2 (List.mem_of_getElem? (i := 129) rfl)) rfl, zTB_of (zmem1 (List.mem_of_getElem? (i := 3) rfl)) rfl, zc_X3_putSalt, by decide +kernel, by decide +kernel, by decide +kernel⟩
theorem zc_X3_cookTo : Cond.code yX3_cookTo cX3_cookTo 2 none ∈ zTB := zTB_of (zmem2 (List.mem_of_getElem? (i := 138) rfl)) rfl
theorem zy_X3_cookTo : Cond.instanceMethod yX3_cookTo ∈ zTB ∧ Cond.selects yX3_cookTo.cls yX3_cookTo yX3_cookTo ∈ zTB ∧ Cond.initialized yX3_cookTo.cls ∈ zTB ∧ Cond.code yX3_cookTo cX3_cookTo 2 none ∈ zTB ∧ zDs yX3_cookTo 1 := ⟨zTB_of (zmem2 (List.mem_of_getElem? (i := 136) rfl)) rfl, zTB_of (zmem2 (List.mem_of_getElem? (i := 137) rfl)) rfl, zTB_of (zmem1 (List.mem_of_getElem? (i := 3) rfl)) rfl, zc_X3_cookTo, by decide +kernel, by decide +kernel, by decide +kernel⟩
theorem zc_X3_waitOnce : Cond.code yX3_waitOnce cX3_waitOnce 1 none ∈ zTB := zTB_of (zmem2 (List.mem_of_getElem? (i := 121) rfl)) rfl
theorem zy_X3_waitOnce : Cond.instanceMethod yX3_waitOnce ∈ zTB ∧ Cond.selects yX3_waitOnce.cls yX3_waitOnce yX3_waitOnce ∈ zTB ∧ Cond.initialized yX3_waitOnce.cls ∈ zTB ∧ Cond.code yX3_waitOnce cX3_waitOnce 1 none ∈ zTB ∧ zDs yX3_waitOnce 0 := ⟨zTB_of (zmem2 (List.mem_of_getElem? (i := 119) rfl)) rfl, zTB_of (zmem2 (List.mem_of_getElem? (i := 120) rfl)) rfl, zTB_of (zmem1 (List.mem_of_getElem? (i := 3) rfl)) rfl, zc_X3_waitOnce, by decide +kernel, by decide +kernel, by decide +kernel⟩
theorem zc_X3_exchangeSpoons : Cond.code yX3_exchangeSpoons cX3_exchangeSpoons 5 none ∈ zTB := zTB_of (zmem2 (List.mem_of_getElem? (i := 151) rfl)) rfl
theorem zy_X3_exchangeSpoons : Cond.instanceMethod yX3_exchangeSpoons ∈ zTB ∧ Cond.selects yX3_exchangeSpoons.cls yX3_exchangeSpoons yX3_exchangeSpoons ∈ zTB ∧ Cond.initialized yX3_exchangeSpoons.cls ∈ zTB ∧ Cond.code yX3_exchangeSpoons cX3_exchangeSpoons 5 none ∈ zTB ∧ zDs yX3_exchangeSpoons 2 := ⟨zTB_of (zmem2 (List.mem_of_getElem? (i := 149) rfl)) rfl, zTB_of (zmem2 (List.mem_of_getElem? (i := 150) rfl)) rfl, zTB_of (zmem1 (List.mem_of_getElem? (i := 3) rfl)) rfl, zc_X3_exchangeSpoons, by decide +kernel, by decide +kernel, by decide +kernel⟩
theorem zc_X3_fastDay : Cond.code yX3_fastDay cX3_fastDay 2 none ∈ zTB := zTB_of (zmem2 (List.mem_of_getElem? (i := 159) rfl)) rfl
theorem zy_X3_fastDay : Cond.instanceMethod yX3_fastDay ∈ zTB ∧ Cond.selects yX3_fastDay.cls yX3_fastDay yX3_fastDay ∈ zTB ∧ Cond.initialized yX3_fastDay.cls ∈ zTB ∧ Cond.code yX3_fastDay cX3_fastDay 2 none ∈ zTB ∧ zDs yX3_fastDay 0 := ⟨zTB_of (zmem2 (List.mem_of_getElem? (i := 157) rfl)) rfl, zTB_of (zmem2 (List.mem_of_getElem? (i := 158) rfl)) rfl, zTB_of (zmem1 (List.mem_of_getElem? (i := 3) rfl)) rfl, zc_X3_fastDay, by decide +kernel, by decide +kernel, by decide +kernel⟩
theorem zc_X3_liveBy : Cond.code yX3_liveBy cX3_liveBy 3 none ∈ zTB := zTB_of (zmem3 (List.mem_of_getElem? (i := 91) rfl)) rfl
theorem zy_X3_liveBy : Cond.instanceMethod yX3_liveBy ∈ zTB ∧ Cond.selects yX3_liveBy.cls yX3_liveBy yX3_liveBy ∈ zTB ∧ Cond.initialized yX3_liveBy.cls ∈ zTB ∧ Cond.code yX3_liveBy cX3_liveBy 3 none ∈ zTB ∧ zDs yX3_liveBy 1 := ⟨zTB_of (zmem3 (List.mem_of_getElem? (i := 89) rfl)) rfl, zTB_of (zmem3 (List.mem_of_getElem? (i := 90) rfl)) rfl, zTB_of (zmem1 (List.mem_of_getElem? (i := 3) rfl)) rfl, zc_X3_liveBy, by decide +kernel, by decide +kernel, by decide +kernel⟩
theorem zc_X3_hungerOfAll : Cond.code yX3_hungerOfAll cX3_hungerOfAll 1 (some .int) ∈ zTB := zTB_of (zmem2 (List.mem_of_getElem? (i := 163) rfl)) rfl
theorem zy_X3_hungerOfAll : Cond.instanceMethod yX3_hungerOfAll ∈ zTB ∧ Cond.selects yX3_hungerOfAll.cls yX3_hungerOfAll yX3_hungerOfAll ∈ zTB ∧ Cond.initialized yX3_hungerOfAll.cls ∈ zTB ∧ Cond.code yX3_hungerOfAll cX3_hungerOfAll 1 (some .int) ∈ zTB ∧ zDs yX3_hungerOfAll 0 := ⟨zTB_of (zmem2 (List.mem_of_getElem? (i := 161) rfl)) rfl, zTB_of (zmem2 (List.mem_of_getElem? (i := 162) rfl)) rfl, zTB_of (zmem1 (List.mem_of_getElem? (i := 3) rfl)) rfl, zc_X3_hungerOfAll, by decide +kernel, by decide +kernel, by decide +kernel⟩
theorem zc_X3_eatenInAll : Cond.code yX3_eatenInAll cX3_eatenInAll 1 (some .int) ∈ zTB := zTB_of (zmem3 (List.mem_of_getElem? (i := 98) rfl)) rfl
theorem zy_X3_eatenInAll : Cond.instanceMethod yX3_eatenInAll ∈ zTB ∧ Cond.selects yX3_eatenInAll.cls yX3_eatenInAll yX3_eatenInAll ∈ zTB ∧ Cond.initialized yX3_eatenInAll.cls ∈ zTB ∧ Cond.code yX3_eatenInAll cX3_eatenInAll 1 (some .int) ∈ zTB ∧ zDs yX3_eatenInAll 0 := ⟨zTB_of (zmem3 (List.mem_of_getElem? (i := 96) rfl)) rfl, zTB_of (zmem3 (List.mem_of_getElem? (i := 97) rfl)) rfl, zTB_of (zmem1 (List.mem_of_getElem? (i := 3) rfl)) rfl, zc_X3_eatenInAll, by decide +kernel, by decide +kernel, by decide +kernel⟩
theorem zc_X3_sum : Cond.code yX3_sum cX3_sum 4 (some .int) ∈ zTB := zTB_of (zmem2 (List.mem_of_getElem? (i := 167) rfl)) rfl
theorem zy_X3_sum : Cond.instanceMethod yX3_sum ∈ zTB ∧ Cond.selects yX3_sum.cls yX3_sum yX3_sum ∈ zTB ∧ Cond.initialized yX3_sum.cls ∈ zTB ∧ Cond.code yX3_sum cX3_sum 4 (some .int) ∈ zTB ∧ zDs yX3_sum 1 := ⟨zTB_of (zmem2 (List.mem_of_getElem? (i := 166) rfl)) rfl, zTB_of (zmem0 (List.mem_of_getElem? (i := 9) rfl)) rfl, zTB_of (zmem1 (List.mem_of_getElem? (i := 3) rfl)) rfl, zc_X3_sum, by decide +kernel, by decide +kernel, by decide +kernel⟩
theorem zc_X4_init : Cond.code yX4_init cX4_init 1 none ∈ zTB := zTB_of (zmem1 (List.mem_of_getElem? (i := 27) rfl)) rfl
theorem zi_X4_init : Cond.instanceMethod yX4_init ∈ zTB := zTB_of (zmem1 (List.mem_of_getElem? (i := 26) rfl)) rfl
theorem zc_X4_clear : Cond.code yX4_clear cX4_clear 1 none ∈ zTB := zTB_of (zmem2 (List.mem_of_getElem? (i := 18) rfl)) rfl
theorem zy_X4_clear : Cond.instanceMethod yX4_clear ∈ zTB ∧ Cond.selects yX4_clear.cls yX4_clear yX4_clear ∈ zTB ∧ Cond.initialized yX4_clear.cls ∈ zTB ∧ Cond.code yX4_clear cX4_clear 1 none ∈ zTB ∧ zDs yX4_clear 0 := ⟨zTB_of (zmem2 (List.mem_of_getElem? (i := 16) rfl)) rfl, zTB_of (zmem2 (List.mem_of_getElem? (i := 17) rfl)) rfl, zTB_of (zmem1 (List.mem_of_getElem? (i := 2) rfl)) rfl, zc_X4_clear, by decide +kernel, by decide +kernel, by decide +kernel⟩
theorem zc_X4_append : Cond.code yX4_append cX4_append 2 (some .boolean) ∈ zTB := zTB_of (zmem1 (List.mem_of_getElem? (i := 200) rfl)) rfl
theorem zy_X4_append : Cond.instanceMethod yX4_append ∈ zTB ∧ Cond.selects yX4_append.cls yX4_append yX4_append ∈ zTB ∧ Cond.initialized yX4_append.cls ∈ zTB ∧ Cond.code yX4_append cX4_append 2 (some .boolean) ∈ zTB ∧ zDs yX4_append 1 := ⟨zTB_of (zmem1 (List.mem_of_getElem? (i := 198) rfl)) rfl, zTB_of (zmem1 (List.mem_of_getElem? (i := 199) rfl)) rfl, zTB_of (zmem1 (List.mem_of_getElem? (i := 2) rfl)) rfl, zc_X4_append, by decide +kernel, by decide +kernel, by decide +kernel⟩
theorem zc_X4_layOut : Cond.code yX4_layOut cX4_layOut 5 (some .int) ∈ zTB := zTB_of (zmem1 (List.mem_of_getElem? (i := 204) rfl)) rfl
theorem zy_X4_layOut : Cond.instanceMethod yX4_layOut ∈ zTB ∧ Cond.selects yX4_layOut.cls yX4_layOut yX4_layOut ∈ zTB ∧ Cond.initialized yX4_layOut.cls ∈ zTB ∧ Cond.code yX4_layOut cX4_layOut 5 (some .int) ∈ zTB ∧ zDs yX4_layOut 1 := ⟨zTB_of (zmem1 (List.mem_of_getElem? (i := 202) rfl)) rfl, zTB_of (zmem1 (List.mem_of_getElem? (i := 203) rfl)) rfl, zTB_of (zmem1 (List.mem_of_getElem? (i := 2) rfl)) rfl, zc_X4_layOut, by decide +kernel, by decide +kernel, by decide +kernel⟩
theorem zc_X4_readItem : Cond.code yX4_readItem cX4_readItem 7 (some .int) ∈ zTB := zTB_of (zmem1 (List.mem_of_getElem? (i := 212) rfl)) rfl
theorem zy_X4_readItem : Cond.instanceMethod yX4_readItem ∈ zTB ∧ Cond.selects yX4_readItem.cls yX4_readItem yX4_readItem ∈ zTB ∧ Cond.initialized yX4_readItem.cls ∈ zTB ∧ Cond.code yX4_readItem cX4_readItem 7 (some .int) ∈ zTB ∧ zDs yX4_readItem 1 := ⟨zTB_of (zmem1 (List.mem_of_getElem? (i := 211) rfl)) rfl, zTB_of (zmem0 (List.mem_of_getElem? (i := 0) rfl)) rfl, zTB_of (zmem1 (List.mem_of_getElem? (i := 2) rfl)) rfl, zc_X4_readItem, by decide +kernel, by decide +kernel, by decide +kernel⟩
theorem zc_X4_isTaken : Cond.code yX4_isTaken cX4_isTaken 3 (some .boolean) ∈ zTB := zTB_of (zmem1 (List.mem_of_getElem? (i := 235) rfl)) rfl
theorem zy_X4_isTaken : Cond.instanceMethod yX4_isTaken ∈ zTB ∧ Cond.selects yX4_isTaken.cls yX4_isTaken yX4_isTaken ∈ zTB ∧ Cond.initialized yX4_isTaken.cls ∈ zTB ∧ Cond.code yX4_isTaken cX4_isTaken 3 (some .boolean) ∈ zTB ∧ zDs yX4_isTaken 2 := ⟨zTB_of (zmem1 (List.mem_of_getElem? (i := 234) rfl)) rfl, zTB_of (zmem0 (List.mem_of_getElem? (i := 5) rfl)) rfl, zTB_of (zmem1 (List.mem_of_getElem? (i := 2) rfl)) rfl, zc_X4_isTaken, by decide +kernel, by decide +kernel, by decide +kernel⟩
theorem zc_X4_numbersBehind : Cond.code yX4_numbersBehind cX4_numbersBehind 1 (some .int) ∈ zTB := zTB_of (zmem1 (List.mem_of_getElem? (i := 219) rfl)) rfl
theorem zy_X4_numbersBehind : Cond.static yX4_numbersBehind ∈ zTB ∧ Cond.initialized yX4_numbersBehind.cls ∈ zTB ∧ Cond.code yX4_numbersBehind cX4_numbersBehind 1 (some .int) ∈ zTB ∧ zDs yX4_numbersBehind 1 := ⟨zTB_of (zmem1 (List.mem_of_getElem? (i := 218) rfl)) rfl, zTB_of (zmem1 (List.mem_of_getElem? (i := 2) rfl)) rfl, zc_X4_numbersBehind, by decide +kernel, by decide +kernel, by decide +kernel⟩
theorem zc_X4_figuresAt : Cond.code yX4_figuresAt cX4_figuresAt 2 (some .int) ∈ zTB := zTB_of (zmem1 (List.mem_of_getElem? (i := 223) rfl)) rfl
theorem zy_X4_figuresAt : Cond.instanceMethod yX4_figuresAt ∈ zTB ∧ Cond.selects yX4_figuresAt.cls yX4_figuresAt yX4_figuresAt ∈ zTB ∧ Cond.initialized yX4_figuresAt.cls ∈ zTB ∧ Cond.code yX4_figuresAt cX4_figuresAt 2 (some .int) ∈ zTB ∧ zDs yX4_figuresAt 1 := ⟨zTB_of (zmem1 (List.mem_of_getElem? (i := 222) rfl)) rfl, zTB_of (zmem0 (List.mem_of_getElem? (i := 2) rfl)) rfl, zTB_of (zmem1 (List.mem_of_getElem? (i := 2) rfl)) rfl, zc_X4_figuresAt, by decide +kernel, by decide +kernel, by decide +kernel⟩
theorem zc_X4_isFigure : Cond.code yX4_isFigure cX4_isFigure 2 (some .boolean) ∈ zTB := zTB_of (zmem1 (List.mem_of_getElem? (i := 227) rfl)) rfl
theorem zy_X4_isFigure : Cond.instanceMethod yX4_isFigure ∈ zTB ∧ Cond.selects yX4_isFigure.cls yX4_isFigure yX4_isFigure ∈ zTB ∧ Cond.initialized yX4_isFigure.cls ∈ zTB ∧ Cond.code yX4_isFigure cX4_isFigure 2 (some .boolean) ∈ zTB ∧ zDs yX4_isFigure 1 := ⟨zTB_of (zmem1 (List.mem_of_getElem? (i := 226) rfl)) rfl, zTB_of (zmem0 (List.mem_of_getElem? (i := 3) rfl)) rfl, zTB_of (zmem1 (List.mem_of_getElem? (i := 2) rfl)) rfl, zc_X4_isFigure, by decide +kernel, by decide +kernel, by decide +kernel⟩
theorem zc_X4_figure : Cond.code yX4_figure cX4_figure 2 (some .int) ∈ zTB := zTB_of (zmem1 (List.mem_of_getElem? (i := 231) rfl)) rfl
theorem zy_X4_figure : Cond.instanceMethod yX4_figure ∈ zTB ∧ Cond.selects yX4_figure.cls yX4_figure yX4_figure ∈ zTB ∧ Cond.initialized yX4_figure.cls ∈ zTB ∧ Cond.code yX4_figure cX4_figure 2 (some .int) ∈ zTB ∧ zDs yX4_figure 1 := ⟨zTB_of (zmem1 (List.mem_of_getElem? (i := 230) rfl)) rfl, zTB_of (zmem0 (List.mem_of_getElem? (i := 4) rfl)) rfl, zTB_of (zmem1 (List.mem_of_getElem? (i := 2) rfl)) rfl, zc_X4_figure, by decide +kernel, by decide +kernel, by decide +kernel⟩
theorem zc_X4_at : Cond.code yX4_at cX4_at 2 (some .char) ∈ zTB := zTB_of (zmem1 (List.mem_of_getElem? (i := 216) rfl)) rfl
theorem zy_X4_at : Cond.instanceMethod yX4_at ∈ zTB ∧ Cond.selects yX4_at.cls yX4_at yX4_at ∈ zTB ∧ Cond.initialized yX4_at.cls ∈ zTB ∧ Cond.code yX4_at cX4_at 2 (some .char) ∈ zTB ∧ zDs yX4_at 1 := ⟨zTB_of (zmem1 (List.mem_of_getElem? (i := 215) rfl)) rfl, zTB_of (zmem0 (List.mem_of_getElem? (i := 1) rfl)) rfl, zTB_of (zmem1 (List.mem_of_getElem? (i := 2) rfl)) rfl, zc_X4_at, by decide +kernel, by decide +kernel, by decide +kernel⟩
theorem zc_X5_init : Cond.code yX5_init cX5_init 2 none ∈ zTB := zTB_of (zmem1 (List.mem_of_getElem? (i := 19) rfl)) rfl
theorem zi_X5_init : Cond.instanceMethod yX5_init ∈ zTB := zTB_of (zmem1 (List.mem_of_getElem? (i := 18) rfl)) rfl
theorem zc_X5_write : Cond.code yX5_write cX5_write 2 (some .int) ∈ zTB := zTB_of (zmem2 (List.mem_of_getElem? (i := 45) rfl)) rfl
theorem zy_X5_write : Cond.instanceMethod yX5_write ∈ zTB ∧ Cond.selects yX5_write.cls yX5_write yX5_write ∈ zTB ∧ Cond.initialized yX5_write.cls ∈ zTB ∧ Cond.code yX5_write cX5_write 2 (some .int) ∈ zTB ∧ zDs yX5_write 1 := ⟨zTB_of (zmem2 (List.mem_of_getElem? (i := 43) rfl)) rfl, zTB_of (zmem2 (List.mem_of_getElem? (i := 44) rfl)) rfl, zTB_of (zmem1 (List.mem_of_getElem? (i := 1) rfl)) rfl, zc_X5_write, by decide +kernel, by decide +kernel, by decide +kernel⟩
theorem zc_X5_wipe : Cond.code yX5_wipe cX5_wipe 2 (some .int) ∈ zTB := zTB_of (zmem2 (List.mem_of_getElem? (i := 50) rfl)) rfl
theorem zy_X5_wipe : Cond.instanceMethod yX5_wipe ∈ zTB ∧ Cond.selects yX5_wipe.cls yX5_wipe yX5_wipe ∈ zTB ∧ Cond.initialized yX5_wipe.cls ∈ zTB ∧ Cond.code yX5_wipe cX5_wipe 2 (some .int) ∈ zTB ∧ zDs yX5_wipe 0 := ⟨zTB_of (zmem2 (List.mem_of_getElem? (i := 48) rfl)) rfl, zTB_of (zmem2 (List.mem_of_getElem? (i := 49) rfl)) rfl, zTB_of (zmem1 (List.mem_of_getElem? (i := 1) rfl)) rfl, zc_X5_wipe, by decide +kernel, by decide +kernel, by decide +kernel⟩
theorem zc_X5_fault : Cond.code yX5_fault cX5_fault 1 (some .int) ∈ zTB := zTB_of (zmem2 (List.mem_of_getElem? (i := 54) rfl)) rfl
theorem zy_X5_fault : Cond.instanceMethod yX5_fault ∈ zTB ∧ Cond.selects yX5_fault.cls yX5_fault yX5_fault ∈ zTB ∧ Cond.initialized yX5_fault.cls ∈ zTB ∧ Cond.code yX5_fault cX5_fault 1 (some .int) ∈ zTB ∧ zDs yX5_fault 0 := ⟨zTB_of (zmem2 (List.mem_of_getElem? (i := 52) rfl)) rfl, zTB_of (zmem2 (List.mem_of_getElem? (i := 53) rfl)) rfl, zTB_of (zmem1 (List.mem_of_getElem? (i := 1) rfl)) rfl, zc_X5_fault, by decide +kernel, by decide +kernel, by decide +kernel⟩
theorem zc_X5_lay : Cond.code yX5_lay cX5_lay 1 (some .int) ∈ zTB := zTB_of (zmem2 (List.mem_of_getElem? (i := 58) rfl)) rfl
theorem zy_X5_lay : Cond.instanceMethod yX5_lay ∈ zTB ∧ Cond.selects yX5_lay.cls yX5_lay yX5_lay ∈ zTB ∧ Cond.initialized yX5_lay.cls ∈ zTB ∧ Cond.code yX5_lay cX5_lay 1 (some .int) ∈ zTB ∧ zDs yX5_lay 0 := ⟨zTB_of (zmem2 (List.mem_of_getElem? (i := 56) rfl)) rfl, zTB_of (zmem2 (List.mem_of_getElem? (i := 57) rfl)) rfl, zTB_of (zmem1 (List.mem_of_getElem? (i := 1) rfl)) rfl, zc_X5_lay, by decide +kernel, by decide +kernel, by decide +kernel⟩
theorem zc_X5_member : Cond.code yX5_member cX5_member 3 (some .int) ∈ zTB := zTB_of (zmem2 (List.mem_of_getElem? (i := 77) rfl)) rfl
theorem zy_X5_member : Cond.instanceMethod yX5_member ∈ zTB ∧ Cond.selects yX5_member.cls yX5_member yX5_member ∈ zTB ∧ Cond.initialized yX5_member.cls ∈ zTB ∧ Cond.code yX5_member cX5_member 3 (some .int) ∈ zTB ∧ zDs yX5_member 2 := ⟨zTB_of (zmem2 (List.mem_of_getElem? (i := 75) rfl)) rfl, zTB_of (zmem2 (List.mem_of_getElem? (i := 76) rfl)) rfl, zTB_of (zmem1 (List.mem_of_getElem? (i := 1) rfl)) rfl, zc_X5_member, by decide +kernel, by decide +kernel, by decide +kernel⟩
theorem zc_X5_eat : Cond.code yX5_eat cX5_eat 3 (some .int) ∈ zTB := zTB_of (zmem2 (List.mem_of_getElem? (i := 99) rfl)) rfl
theorem zy_X5_eat : Cond.instanceMethod yX5_eat ∈ zTB ∧ Cond.selects yX5_eat.cls yX5_eat yX5_eat ∈ zTB ∧ Cond.initialized yX5_eat.cls ∈ zTB ∧ Cond.code yX5_eat cX5_eat 3 (some .int) ∈ zTB ∧ zDs yX5_eat 1 := ⟨zTB_of (zmem2 (List.mem_of_getElem? (i := 97) rfl)) rfl, zTB_of (zmem2 (List.mem_of_getElem? (i := 98) rfl)) rfl, zTB_of (zmem1 (List.mem_of_getElem? (i := 1) rfl)) rfl, zc_X5_eat, by decide +kernel, by decide +kernel, by decide +kernel⟩
theorem zc_X5_salt : Cond.code yX5_salt cX5_salt 1 (some .int) ∈ zTB := zTB_of (zmem2 (List.mem_of_getElem? (i := 126) rfl)) rfl
theorem zy_X5_salt : Cond.instanceMethod yX5_salt ∈ zTB ∧ Cond.selects yX5_salt.cls yX5_salt yX5_salt ∈ zTB ∧ Cond.initialized yX5_salt.cls ∈ zTB ∧ Cond.code yX5_salt cX5_salt 1 (some .int) ∈ zTB ∧ zDs yX5_salt 0 := ⟨zTB_of (zmem2 (List.mem_of_getElem? (i := 124) rfl)) rfl, zTB_of (zmem2 (List.mem_of_getElem? (i := 125) rfl)) rfl, zTB_of (zmem1 (List.mem_of_getElem? (i := 1) rfl)) rfl, zc_X5_salt, by decide +kernel, by decide +kernel, by decide +kernel⟩
theorem zc_X5_cook : Cond.code yX5_cook cX5_cook 2 (some .int) ∈ zTB := zTB_of (zmem2 (List.mem_of_getElem? (i := 134) rfl)) rfl
theorem zy_X5_cook : Cond.instanceMethod yX5_cook ∈ zTB ∧ Cond.selects yX5_cook.cls yX5_cook yX5_cook ∈ zTB ∧ Cond.initialized yX5_cook.cls ∈ zTB ∧ Cond.code yX5_cook cX5_cook 2 (some .int) ∈ zTB ∧ zDs yX5_cook 1 := ⟨zTB_of (zmem2 (List.mem_of_getElem? (i := 132) rfl)) rfl, zTB_of (zmem2 (List.mem_of_getElem? (i := 133) rfl)) rfl, zTB_of (zmem1 (List.mem_of_getElem? (i := 1) rfl)) rfl, zc_X5_cook, by decide +kernel, by decide +kernel, by decide +kernel⟩
theorem zc_X5_cool : Cond.code yX5_cool cX5_cool 1 (some .int) ∈ zTB := zTB_of (zmem2 (List.mem_of_getElem? (i := 142) rfl)) rfl
theorem zy_X5_cool : Cond.instanceMethod yX5_cool ∈ zTB ∧ Cond.selects yX5_cool.cls yX5_cool yX5_cool ∈ zTB ∧ Cond.initialized yX5_cool.cls ∈ zTB ∧ Cond.code yX5_cool cX5_cool 1 (some .int) ∈ zTB ∧ zDs yX5_cool 0 := ⟨zTB_of (zmem2 (List.mem_of_getElem? (i := 140) rfl)) rfl, zTB_of (zmem2 (List.mem_of_getElem? (i := 141) rfl)) rfl, zTB_of (zmem1 (List.mem_of_getElem? (i := 1) rfl)) rfl, zc_X5_cool, by decide +kernel, by decide +kernel, by decide +kernel⟩
theorem zc_X5_trade : Cond.code yX5_trade cX5_trade 3 (some .int) ∈ zTB := zTB_of (zmem2 (List.mem_of_getElem? (i := 147) rfl)) rfl
theorem zy_X5_trade : Cond.instanceMethod yX5_trade ∈ zTB ∧ Cond.selects yX5_trade.cls yX5_trade yX5_trade ∈ zTB ∧ Cond.initialized yX5_trade.cls ∈ zTB ∧ Cond.code yX5_trade cX5_trade 3 (some .int) ∈ zTB ∧ zDs yX5_trade 2 := ⟨zTB_of (zmem2 (List.mem_of_getElem? (i := 145) rfl)) rfl, zTB_of (zmem2 (List.mem_of_getElem? (i := 146) rfl)) rfl, zTB_of (zmem1 (List.mem_of_getElem? (i := 1) rfl)) rfl, zc_X5_trade, by decide +kernel, by decide +kernel, by decide +kernel⟩
theorem zc_X5_fast : Cond.code yX5_fast cX5_fast 1 (some .int) ∈ zTB := zTB_of (zmem2 (List.mem_of_getElem? (i := 155) rfl)) rfl
theorem zy_X5_fast : Cond.instanceMethod yX5_fast ∈ zTB ∧ Cond.selects yX5_fast.cls yX5_fast yX5_fast ∈ zTB ∧ Cond.initialized yX5_fast.cls ∈ zTB ∧ Cond.code yX5_fast cX5_fast 1 (some .int) ∈ zTB ∧ zDs yX5_fast 0 := ⟨zTB_of (zmem2 (List.mem_of_getElem? (i := 153) rfl)) rfl, zTB_of (zmem2 (List.mem_of_getElem? (i := 154) rfl)) rfl, zTB_of (zmem1 (List.mem_of_getElem? (i := 1) rfl)) rfl, zc_X5_fast, by decide +kernel, by decide +kernel, by decide +kernel⟩
theorem zc_X5_undo : Cond.code yX5_undo cX5_undo 1 (some .int) ∈ zTB := zTB_of (zmem2 (List.mem_of_getElem? (i := 171) rfl)) rfl
theorem zy_X5_undo : Cond.instanceMethod yX5_undo ∈ zTB ∧ Cond.selects yX5_undo.cls yX5_undo yX5_undo ∈ zTB ∧ Cond.initialized yX5_undo.cls ∈ zTB ∧ Cond.code yX5_undo cX5_undo 1 (some .int) ∈ zTB ∧ zDs yX5_undo 0 := ⟨zTB_of (zmem2 (List.mem_of_getElem? (i := 169) rfl)) rfl, zTB_of (zmem2 (List.mem_of_getElem? (i := 170) rfl)) rfl, zTB_of (zmem1 (List.mem_of_getElem? (i := 1) rfl)) rfl, zc_X5_undo, by decide +kernel, by decide +kernel, by decide +kernel⟩
theorem zc_X5_passes : Cond.code yX5_passes cX5_passes 1 (some .int) ∈ zTB := zTB_of (zmem2 (List.mem_of_getElem? (i := 180) rfl)) rfl
theorem zy_X5_passes : Cond.instanceMethod yX5_passes ∈ zTB ∧ Cond.selects yX5_passes.cls yX5_passes yX5_passes ∈ zTB ∧ Cond.initialized yX5_passes.cls ∈ zTB ∧ Cond.code yX5_passes cX5_passes 1 (some .int) ∈ zTB ∧ zDs yX5_passes 0 := ⟨zTB_of (zmem2 (List.mem_of_getElem? (i := 178) rfl)) rfl, zTB_of (zmem2 (List.mem_of_getElem? (i := 179) rfl)) rfl, zTB_of (zmem1 (List.mem_of_getElem? (i := 1) rfl)) rfl, zc_X5_passes, by decide +kernel, by decide +kernel, by decide +kernel⟩
theorem zc_X5_left : Cond.code yX5_left cX5_left 2 (some .int) ∈ zTB := zTB_of (zmem2 (List.mem_of_getElem? (i := 188) rfl)) rfl
theorem zy_X5_left : Cond.instanceMethod yX5_left ∈ zTB ∧ Cond.selects yX5_left.cls yX5_left yX5_left ∈ zTB ∧ Cond.initialized yX5_left.cls ∈ zTB ∧ Cond.code yX5_left cX5_left 2 (some .int) ∈ zTB ∧ zDs yX5_left 1 := ⟨zTB_of (zmem2 (List.mem_of_getElem? (i := 186) rfl)) rfl, zTB_of (zmem2 (List.mem_of_getElem? (i := 187) rfl)) rfl, zTB_of (zmem1 (List.mem_of_getElem? (i := 1) rfl)) rfl, zc_X5_left, by decide +kernel, by decide +kernel, by decide +kernel⟩
theorem zc_X5_scraper : Cond.code yX5_scraper cX5_scraper 1 (some .int) ∈ zTB := zTB_of (zmem2 (List.mem_of_getElem? (i := 192) rfl)) rfl
theorem zy_X5_scraper : Cond.instanceMethod yX5_scraper ∈ zTB ∧ Cond.selects yX5_scraper.cls yX5_scraper yX5_scraper ∈ zTB ∧ Cond.initialized yX5_scraper.cls ∈ zTB ∧ Cond.code yX5_scraper cX5_scraper 1 (some .int) ∈ zTB ∧ zDs yX5_scraper 0 := ⟨zTB_of (zmem2 (List.mem_of_getElem? (i := 190) rfl)) rfl, zTB_of (zmem2 (List.mem_of_getElem? (i := 191) rfl)) rfl, zTB_of (zmem1 (List.mem_of_getElem? (i := 1) rfl)) rfl, zc_X5_scraper, by decide +kernel, by decide +kernel, by decide +kernel⟩
theorem zc_X5_spoil : Cond.code yX5_spoil cX5_spoil 2 (some .int) ∈ zTB := zTB_of (zmem2 (List.mem_of_getElem? (i := 196) rfl)) rfl
theorem zy_X5_spoil : Cond.instanceMethod yX5_spoil ∈ zTB ∧ Cond.selects yX5_spoil.cls yX5_spoil yX5_spoil ∈ zTB ∧ Cond.initialized yX5_spoil.cls ∈ zTB ∧ Cond.code yX5_spoil cX5_spoil 2 (some .int) ∈ zTB ∧ zDs yX5_spoil 0 := ⟨zTB_of (zmem2 (List.mem_of_getElem? (i := 194) rfl)) rfl, zTB_of (zmem2 (List.mem_of_getElem? (i := 195) rfl)) rfl, zTB_of (zmem1 (List.mem_of_getElem? (i := 1) rfl)) rfl, zc_X5_spoil, by decide +kernel, by decide +kernel, by decide +kernel⟩
theorem zc_X5_waits : Cond.code yX5_waits cX5_waits 2 (some .int) ∈ zTB := zTB_of (zmem2 (List.mem_of_getElem? (i := 212) rfl)) rfl
theorem zy_X5_waits : Cond.instanceMethod yX5_waits ∈ zTB ∧ Cond.selects yX5_waits.cls yX5_waits yX5_waits ∈ zTB ∧ Cond.initialized yX5_waits.cls ∈ zTB ∧ Cond.code yX5_waits cX5_waits 2 (some .int) ∈ zTB ∧ zDs yX5_waits 0 := ⟨zTB_of (zmem2 (List.mem_of_getElem? (i := 210) rfl)) rfl, zTB_of (zmem2 (List.mem_of_getElem? (i := 211) rfl)) rfl, zTB_of (zmem1 (List.mem_of_getElem? (i := 1) rfl)) rfl, zc_X5_waits, by decide +kernel, by decide +kernel, by decide +kernel⟩
theorem zc_X5_most : Cond.code yX5_most cX5_most 1 (some .int) ∈ zTB := zTB_of (zmem2 (List.mem_of_getElem? (i := 216) rfl)) rfl
theorem zy_X5_most : Cond.instanceMethod yX5_most ∈ zTB ∧ Cond.selects yX5_most.cls yX5_most yX5_most ∈ zTB ∧ Cond.initialized yX5_most.cls ∈ zTB ∧ Cond.code yX5_most cX5_most 1 (some .int) ∈ zTB ∧ zDs yX5_most 0 := ⟨zTB_of (zmem2 (List.mem_of_getElem? (i := 214) rfl)) rfl, zTB_of (zmem2 (List.mem_of_getElem? (i := 215) rfl)) rfl, zTB_of (zmem1 (List.mem_of_getElem? (i := 1) rfl)) rfl, zc_X5_most, by decide +kernel, by decide +kernel, by decide +kernel⟩
theorem zc_X5_fasts : Cond.code yX5_fasts cX5_fasts 2 (some .int) ∈ zTB := zTB_of (zmem2 (List.mem_of_getElem? (i := 222) rfl)) rfl
theorem zy_X5_fasts : Cond.instanceMethod yX5_fasts ∈ zTB ∧ Cond.selects yX5_fasts.cls yX5_fasts yX5_fasts ∈ zTB ∧ Cond.initialized yX5_fasts.cls ∈ zTB ∧ Cond.code yX5_fasts cX5_fasts 2 (some .int) ∈ zTB ∧ zDs yX5_fasts 0 := ⟨zTB_of (zmem2 (List.mem_of_getElem? (i := 220) rfl)) rfl, zTB_of (zmem2 (List.mem_of_getElem? (i := 221) rfl)) rfl, zTB_of (zmem1 (List.mem_of_getElem? (i := 1) rfl)) rfl, zc_X5_fasts, by decide +kernel, by decide +kernel, by decide +kernel⟩
theorem zc_X5_cabal : Cond.code yX5_cabal cX5_cabal 3 (some .int) ∈ zTB := zTB_of (zmem2 (List.mem_of_getElem? (i := 226) rfl)) rfl
theorem zy_X5_cabal : Cond.instanceMethod yX5_cabal ∈ zTB ∧ Cond.selects yX5_cabal.cls yX5_cabal yX5_cabal ∈ zTB ∧ Cond.initialized yX5_cabal.cls ∈ zTB ∧ Cond.code yX5_cabal cX5_cabal 3 (some .int) ∈ zTB ∧ zDs yX5_cabal 1 := ⟨zTB_of (zmem2 (List.mem_of_getElem? (i := 224) rfl)) rfl, zTB_of (zmem2 (List.mem_of_getElem? (i := 225) rfl)) rfl, zTB_of (zmem1 (List.mem_of_getElem? (i := 1) rfl)) rfl, zc_X5_cabal, by decide +kernel, by decide +kernel, by decide +kernel⟩
theorem zc_X5_trades : Cond.code yX5_trades cX5_trades 3 (some .int) ∈ zTB := zTB_of (zmem3 (List.mem_of_getElem? (i := 17) rfl)) rfl
theorem zy_X5_trades : Cond.instanceMethod yX5_trades ∈ zTB ∧ Cond.selects yX5_trades.cls yX5_trades yX5_trades ∈ zTB ∧ Cond.initialized yX5_trades.cls ∈ zTB ∧ Cond.code yX5_trades cX5_trades 3 (some .int) ∈ zTB ∧ zDs yX5_trades 0 := ⟨zTB_of (zmem3 (List.mem_of_getElem? (i := 15) rfl)) rfl, zTB_of (zmem3 (List.mem_of_getElem? (i := 16) rfl)) rfl, zTB_of (zmem1 (List.mem_of_getElem? (i := 1) rfl)) rfl, zc_X5_trades, by decide +kernel, by decide +kernel, by decide +kernel⟩
theorem zc_X5_power : Cond.code yX5_power cX5_power 3 (some .int) ∈ zTB := zTB_of (zmem3 (List.mem_of_getElem? (i := 21) rfl)) rfl
theorem zy_X5_power : Cond.instanceMethod yX5_power ∈ zTB ∧ Cond.selects yX5_power.cls yX5_power yX5_power ∈ zTB ∧ Cond.initialized yX5_power.cls ∈ zTB ∧ Cond.code yX5_power cX5_power 3 (some .int) ∈ zTB ∧ zDs yX5_power 2 := ⟨zTB_of (zmem3 (List.mem_of_getElem? (i := 19) rfl)) rfl, zTB_of (zmem3 (List.mem_of_getElem? (i := 20) rfl)) rfl, zTB_of (zmem1 (List.mem_of_getElem? (i := 1) rfl)) rfl, zc_X5_power, by decide +kernel, by decide +kernel, by decide +kernel⟩
theorem zc_X5_seen : Cond.code yX5_seen cX5_seen 3 (some .int) ∈ zTB := zTB_of (zmem3 (List.mem_of_getElem? (i := 42) rfl)) rfl
theorem zy_X5_seen : Cond.instanceMethod yX5_seen ∈ zTB ∧ Cond.selects yX5_seen.cls yX5_seen yX5_seen ∈ zTB ∧ Cond.initialized yX5_seen.cls ∈ zTB ∧ Cond.code yX5_seen cX5_seen 3 (some .int) ∈ zTB ∧ zDs yX5_seen 2 := ⟨zTB_of (zmem3 (List.mem_of_getElem? (i := 40) rfl)) rfl, zTB_of (zmem3 (List.mem_of_getElem? (i := 41) rfl)) rfl, zTB_of (zmem1 (List.mem_of_getElem? (i := 1) rfl)) rfl, zc_X5_seen, by decide +kernel, by decide +kernel, by decide +kernel⟩
theorem zc_X5_forget : Cond.code yX5_forget cX5_forget 2 (some .int) ∈ zTB := zTB_of (zmem3 (List.mem_of_getElem? (i := 51) rfl)) rfl
theorem zy_X5_forget : Cond.instanceMethod yX5_forget ∈ zTB ∧ Cond.selects yX5_forget.cls yX5_forget yX5_forget ∈ zTB ∧ Cond.initialized yX5_forget.cls ∈ zTB ∧ Cond.code yX5_forget cX5_forget 2 (some .int) ∈ zTB ∧ zDs yX5_forget 0 := ⟨zTB_of (zmem3 (List.mem_of_getElem? (i := 49) rfl)) rfl, zTB_of (zmem3 (List.mem_of_getElem? (i := 50) rfl)) rfl, zTB_of (zmem1 (List.mem_of_getElem? (i := 1) rfl)) rfl, zc_X5_forget, by decide +kernel, by decide +kernel, by decide +kernel⟩
theorem zc_X5_may : Cond.code yX5_may cX5_may 4 (some .int) ∈ zTB := zTB_of (zmem3 (List.mem_of_getElem? (i := 55) rfl)) rfl
theorem zy_X5_may : Cond.instanceMethod yX5_may ∈ zTB ∧ Cond.selects yX5_may.cls yX5_may yX5_may ∈ zTB ∧ Cond.initialized yX5_may.cls ∈ zTB ∧ Cond.code yX5_may cX5_may 4 (some .int) ∈ zTB ∧ zDs yX5_may 1 := ⟨zTB_of (zmem3 (List.mem_of_getElem? (i := 53) rfl)) rfl, zTB_of (zmem3 (List.mem_of_getElem? (i := 54) rfl)) rfl, zTB_of (zmem1 (List.mem_of_getElem? (i := 1) rfl)) rfl, zc_X5_may, by decide +kernel, by decide +kernel, by decide +kernel⟩
theorem zc_X5_likely : Cond.code yX5_likely cX5_likely 3 (some .int) ∈ zTB := zTB_of (zmem3 (List.mem_of_getElem? (i := 64) rfl)) rfl
theorem zy_X5_likely : Cond.instanceMethod yX5_likely ∈ zTB ∧ Cond.selects yX5_likely.cls yX5_likely yX5_likely ∈ zTB ∧ Cond.initialized yX5_likely.cls ∈ zTB ∧ Cond.code yX5_likely cX5_likely 3 (some .int) ∈ zTB ∧ zDs yX5_likely 2 := ⟨zTB_of (zmem3 (List.mem_of_getElem? (i := 62) rfl)) rfl, zTB_of (zmem3 (List.mem_of_getElem? (i := 63) rfl)) rfl, zTB_of (zmem1 (List.mem_of_getElem? (i := 1) rfl)) rfl, zc_X5_likely, by decide +kernel, by decide +kernel, by decide +kernel⟩
theorem zc_X5_century : Cond.code yX5_century cX5_century 5 (some .int) ∈ zTB := zTB_of (zmem3 (List.mem_of_getElem? (i := 80) rfl)) rfl
theorem zy_X5_century : Cond.instanceMethod yX5_century ∈ zTB ∧ Cond.selects yX5_century.cls yX5_century yX5_century ∈ zTB ∧ Cond.initialized yX5_century.cls ∈ zTB ∧ Cond.code yX5_century cX5_century 5 (some .int) ∈ zTB ∧ zDs yX5_century 3 := ⟨zTB_of (zmem3 (List.mem_of_getElem? (i := 78) rfl)) rfl, zTB_of (zmem3 (List.mem_of_getElem? (i := 79) rfl)) rfl, zTB_of (zmem1 (List.mem_of_getElem? (i := 1) rfl)) rfl, zc_X5_century, by decide +kernel, by decide +kernel, by decide +kernel⟩
theorem zc_X5_keep : Cond.code yX5_keep cX5_keep 1 (some .int) ∈ zTB := zTB_of (zmem3 (List.mem_of_getElem? (i := 102) rfl)) rfl
theorem zy_X5_keep : Cond.instanceMethod yX5_keep ∈ zTB ∧ Cond.selects yX5_keep.cls yX5_keep yX5_keep ∈ zTB ∧ Cond.initialized yX5_keep.cls ∈ zTB ∧ Cond.code yX5_keep cX5_keep 1 (some .int) ∈ zTB ∧ zDs yX5_keep 0 := ⟨zTB_of (zmem3 (List.mem_of_getElem? (i := 100) rfl)) rfl, zTB_of (zmem3 (List.mem_of_getElem? (i := 101) rfl)) rfl, zTB_of (zmem1 (List.mem_of_getElem? (i := 1) rfl)) rfl, zc_X5_keep, by decide +kernel, by decide +kernel, by decide +kernel⟩
theorem zc_X5_back : Cond.code yX5_back cX5_back 1 (some .int) ∈ zTB := zTB_of (zmem3 (List.mem_of_getElem? (i := 106) rfl)) rfl
theorem zy_X5_back : Cond.instanceMethod yX5_back ∈ zTB ∧ Cond.selects yX5_back.cls yX5_back yX5_back ∈ zTB ∧ Cond.initialized yX5_back.cls ∈ zTB ∧ Cond.code yX5_back cX5_back 1 (some .int) ∈ zTB ∧ zDs yX5_back 0 := ⟨zTB_of (zmem3 (List.mem_of_getElem? (i := 104) rfl)) rfl, zTB_of (zmem3 (List.mem_of_getElem? (i := 105) rfl)) rfl, zTB_of (zmem1 (List.mem_of_getElem? (i := 1) rfl)) rfl, zc_X5_back, by decide +kernel, by decide +kernel, by decide +kernel⟩
theorem zc_X5_count : Cond.code yX5_count cX5_count 2 (some .int) ∈ zTB := zTB_of (zmem3 (List.mem_of_getElem? (i := 110) rfl)) rfl
theorem zy_X5_count : Cond.instanceMethod yX5_count ∈ zTB ∧ Cond.selects yX5_count.cls yX5_count yX5_count ∈ zTB ∧ Cond.initialized yX5_count.cls ∈ zTB ∧ Cond.code yX5_count cX5_count 2 (some .int) ∈ zTB ∧ zDs yX5_count 1 := ⟨zTB_of (zmem3 (List.mem_of_getElem? (i := 108) rfl)) rfl, zTB_of (zmem3 (List.mem_of_getElem? (i := 109) rfl)) rfl, zTB_of (zmem1 (List.mem_of_getElem? (i := 1) rfl)) rfl, zc_X5_count, by decide +kernel, by decide +kernel, by decide +kernel⟩
theorem zc_X5_isNoMember : Cond.code yX5_isNoMember cX5_isNoMember 2 (some .boolean) ∈ zTB := zTB_of (zmem2 (List.mem_of_getElem? (i := 81) rfl)) rfl
theorem zy_X5_isNoMember : Cond.instanceMethod yX5_isNoMember ∈ zTB ∧ Cond.selects yX5_isNoMember.cls yX5_isNoMember yX5_isNoMember ∈ zTB ∧ Cond.initialized yX5_isNoMember.cls ∈ zTB ∧ Cond.code yX5_isNoMember cX5_isNoMember 2 (some .boolean) ∈ zTB ∧ zDs yX5_isNoMember 1 := ⟨zTB_of (zmem2 (List.mem_of_getElem? (i := 80) rfl)) rfl, zTB_of (zmem0 (List.mem_of_getElem? (i := 6) rfl)) rfl, zTB_of (zmem1 (List.mem_of_getElem? (i := 1) rfl)) rfl, zc_X5_isNoMember, by decide +kernel, by decide +kernel, by decide +kernel⟩
theorem zc_X5_isOutside : Cond.code yX5_isOutside cX5_isOutside 3 (some .boolean) ∈ zTB := zTB_of (zmem2 (List.mem_of_getElem? (i := 2) rfl)) rfl
theorem zy_X5_isOutside : Cond.static yX5_isOutside ∈ zTB ∧ Cond.initialized yX5_isOutside.cls ∈ zTB ∧ Cond.code yX5_isOutside cX5_isOutside 3 (some .boolean) ∈ zTB ∧ zDs yX5_isOutside 3 := ⟨zTB_of (zmem2 (List.mem_of_getElem? (i := 1) rfl)) rfl, zTB_of (zmem1 (List.mem_of_getElem? (i := 1) rfl)) rfl, zc_X5_isOutside, by decide +kernel, by decide +kernel, by decide +kernel⟩
theorem zc_X5_draw : Cond.code yX5_draw cX5_draw 4 (some .int) ∈ zTB := zTB_of (zmem3 (List.mem_of_getElem? (i := 83) rfl)) rfl
theorem zy_X5_draw : Cond.static yX5_draw ∈ zTB ∧ Cond.initialized yX5_draw.cls ∈ zTB ∧ Cond.code yX5_draw cX5_draw 4 (some .int) ∈ zTB ∧ zDs yX5_draw 2 := ⟨zTB_of (zmem3 (List.mem_of_getElem? (i := 82) rfl)) rfl, zTB_of (zmem1 (List.mem_of_getElem? (i := 1) rfl)) rfl, zc_X5_draw, by decide +kernel, by decide +kernel, by decide +kernel⟩
theorem zc_X5_inLowestTerms : Cond.code yX5_inLowestTerms cX5_inLowestTerms 4 (some .int) ∈ zTB := zTB_of (zmem3 (List.mem_of_getElem? (i := 35) rfl)) rfl
theorem zy_X5_inLowestTerms : Cond.static yX5_inLowestTerms ∈ zTB ∧ Cond.initialized yX5_inLowestTerms.cls ∈ zTB ∧ Cond.code yX5_inLowestTerms cX5_inLowestTerms 4 (some .int) ∈ zTB ∧ zDs yX5_inLowestTerms 3 := ⟨zTB_of (zmem3 (List.mem_of_getElem? (i := 34) rfl)) rfl, zTB_of (zmem1 (List.mem_of_getElem? (i := 1) rfl)) rfl, zc_X5_inLowestTerms, by decide +kernel, by decide +kernel, by decide +kernel⟩
theorem zc_X5_commonDivisor : Cond.code yX5_commonDivisor cX5_commonDivisor 6 (some .int) ∈ zTB := zTB_of (zmem3 (List.mem_of_getElem? (i := 38) rfl)) rfl
theorem zy_X5_commonDivisor : Cond.static yX5_commonDivisor ∈ zTB ∧ Cond.initialized yX5_commonDivisor.cls ∈ zTB ∧ Cond.code yX5_commonDivisor cX5_commonDivisor 6 (some .int) ∈ zTB ∧ zDs yX5_commonDivisor 2 := ⟨zTB_of (zmem3 (List.mem_of_getElem? (i := 37) rfl)) rfl, zTB_of (zmem1 (List.mem_of_getElem? (i := 1) rfl)) rfl, zc_X5_commonDivisor, by decide +kernel, by decide +kernel, by decide +kernel⟩
theorem zc_X6_init : Cond.code yX6_init cX6_init 1 none ∈ zTB := zTB_of (zmem3 (List.mem_of_getElem? (i := 115) rfl)) rfl
theorem zi_X6_init : Cond.instanceMethod yX6_init ∈ zTB := zTB_of (zmem3 (List.mem_of_getElem? (i := 114) rfl)) rfl
theorem zc_X6_in : Cond.code yX6_in cX6_in 3 (some .boolean) ∈ zTB := zTB_of (zmem3 (List.mem_of_getElem? (i := 184) rfl)) rfl
theorem zy_X6_in : Cond.static yX6_in ∈ zTB ∧ Cond.initialized yX6_in.cls ∈ zTB ∧ Cond.code yX6_in cX6_in 3 (some .boolean) ∈ zTB ∧ zDs yX6_in 3 := ⟨zTB_of (zmem3 (List.mem_of_getElem? (i := 183) rfl)) rfl, zTB_of (zmem1 (List.mem_of_getElem? (i := 12) rfl)) rfl, zc_X6_in, by decide +kernel, by decide +kernel, by decide +kernel⟩
theorem zc_X6_isMember : Cond.code yX6_isMember cX6_isMember 2 (some .boolean) ∈ zTB := zTB_of (zmem3 (List.mem_of_getElem? (i := 223) rfl)) rfl
theorem zy_X6_isMember : Cond.instanceMethod yX6_isMember ∈ zTB ∧ Cond.selects yX6_isMember.cls yX6_isMember yX6_isMember ∈ zTB ∧ Cond.initialized yX6_isMember.cls ∈ zTB ∧ Cond.code yX6_isMember cX6_isMember 2 (some .boolean) ∈ zTB ∧ zDs yX6_isMember 1 := ⟨zTB_of (zmem3 (List.mem_of_getElem? (i := 222) rfl)) rfl, zTB_of (zmem0 (List.mem_of_getElem? (i := 20) rfl)) rfl, zTB_of (zmem1 (List.mem_of_getElem? (i := 12) rfl)) rfl, zc_X6_isMember, by decide +kernel, by decide +kernel, by decide +kernel⟩
theorem zc_X6_all : Cond.code yX6_all cX6_all 1 (some .int) ∈ zTB := zTB_of (zmem3 (List.mem_of_getElem? (i := 239) rfl)) rfl
theorem zy_X6_all : Cond.instanceMethod yX6_all ∈ zTB ∧ Cond.selects yX6_all.cls yX6_all yX6_all ∈ zTB ∧ Cond.initialized yX6_all.cls ∈ zTB ∧ Cond.code yX6_all cX6_all 1 (some .int) ∈ zTB ∧ zDs yX6_all 0 := ⟨zTB_of (zmem3 (List.mem_of_getElem? (i := 238) rfl)) rfl, zTB_of (zmem0 (List.mem_of_getElem? (i := 23) rfl)) rfl, zTB_of (zmem1 (List.mem_of_getElem? (i := 12) rfl)) rfl, zc_X6_all, by decide +kernel, by decide +kernel, by decide +kernel⟩
theorem zc_X6_ones : Cond.code yX6_ones cX6_ones 3 (some .int) ∈ zTB := zTB_of (zmem4 (List.mem_of_getElem? (i := 98) rfl)) rfl
theorem zy_X6_ones : Cond.static yX6_ones ∈ zTB ∧ Cond.initialized yX6_ones.cls ∈ zTB ∧ Cond.code yX6_ones cX6_ones 3 (some .int) ∈ zTB ∧ zDs yX6_ones 1 := ⟨zTB_of (zmem4 (List.mem_of_getElem? (i := 97) rfl)) rfl, zTB_of (zmem1 (List.mem_of_getElem? (i := 12) rfl)) rfl, zc_X6_ones, by decide +kernel, by decide +kernel, by decide +kernel⟩
theorem zc_X6_write : Cond.code yX6_write cX6_write 2 (some .int) ∈ zTB := zTB_of (zmem3 (List.mem_of_getElem? (i := 181) rfl)) rfl
theorem zy_X6_write : Cond.instanceMethod yX6_write ∈ zTB ∧ Cond.selects yX6_write.cls yX6_write yX6_write ∈ zTB ∧ Cond.initialized yX6_write.cls ∈ zTB ∧ Cond.code yX6_write cX6_write 2 (some .int) ∈ zTB ∧ zDs yX6_write 1 := ⟨zTB_of (zmem3 (List.mem_of_getElem? (i := 179) rfl)) rfl, zTB_of (zmem3 (List.mem_of_getElem? (i := 180) rfl)) rfl, zTB_of (zmem1 (List.mem_of_getElem? (i := 12) rfl)) rfl, zc_X6_write, by decide +kernel, by decide +kernel, by decide +kernel⟩
theorem zc_X6_wipe : Cond.code yX6_wipe cX6_wipe 2 (some .int) ∈ zTB := zTB_of (zmem3 (List.mem_of_getElem? (i := 188) rfl)) rfl
theorem zy_X6_wipe : Cond.instanceMethod yX6_wipe ∈ zTB ∧ Cond.selects yX6_wipe.cls yX6_wipe yX6_wipe ∈ zTB ∧ Cond.initialized yX6_wipe.cls ∈ zTB ∧ Cond.code yX6_wipe cX6_wipe 2 (some .int) ∈ zTB ∧ zDs yX6_wipe 0 := ⟨zTB_of (zmem3 (List.mem_of_getElem? (i := 186) rfl)) rfl, zTB_of (zmem3 (List.mem_of_getElem? (i := 187) rfl)) rfl, zTB_of (zmem1 (List.mem_of_getElem? (i := 12) rfl)) rfl, zc_X6_wipe, by decide +kernel, by decide +kernel, by decide +kernel⟩
theorem zc_X6_letterAt : Cond.code yX6_letterAt cX6_letterAt 2 (some .int) ∈ zTB := zTB_of (zmem3 (List.mem_of_getElem? (i := 208) rfl)) rfl
theorem zy_X6_letterAt : Cond.instanceMethod yX6_letterAt ∈ zTB ∧ Cond.selects yX6_letterAt.cls yX6_letterAt yX6_letterAt ∈ zTB ∧ Cond.initialized yX6_letterAt.cls ∈ zTB ∧ Cond.code yX6_letterAt cX6_letterAt 2 (some .int) ∈ zTB ∧ zDs yX6_letterAt 1 := ⟨zTB_of (zmem3 (List.mem_of_getElem? (i := 207) rfl)) rfl, zTB_of (zmem0 (List.mem_of_getElem? (i := 19) rfl)) rfl, zTB_of (zmem1 (List.mem_of_getElem? (i := 12) rfl)) rfl, zc_X6_letterAt, by decide +kernel, by decide +kernel, by decide +kernel⟩
theorem zc_X6_isFigure : Cond.code yX6_isFigure cX6_isFigure 1 (some .boolean) ∈ zTB := zTB_of (zmem3 (List.mem_of_getElem? (i := 211) rfl)) rfl
theorem zy_X6_isFigure : Cond.static yX6_isFigure ∈ zTB ∧ Cond.initialized yX6_isFigure.cls ∈ zTB ∧ Cond.code yX6_isFigure cX6_isFigure 1 (some .boolean) ∈ zTB ∧ zDs yX6_isFigure 1 := ⟨zTB_of (zmem3 (List.mem_of_getElem? (i := 210) rfl)) rfl, zTB_of (zmem1 (List.mem_of_getElem? (i := 12) rfl)) rfl, zc_X6_isFigure, by decide +kernel, by decide +kernel, by decide +kernel⟩
theorem zc_X6_number : Cond.code yX6_number cX6_number 6 (some .int) ∈ zTB := zTB_of (zmem3 (List.mem_of_getElem? (i := 204) rfl)) rfl
theorem zy_X6_number : Cond.instanceMethod yX6_number ∈ zTB ∧ Cond.selects yX6_number.cls yX6_number yX6_number ∈ zTB ∧ Cond.initialized yX6_number.cls ∈ zTB ∧ Cond.code yX6_number cX6_number 6 (some .int) ∈ zTB ∧ zDs yX6_number 3 := ⟨zTB_of (zmem3 (List.mem_of_getElem? (i := 203) rfl)) rfl, zTB_of (zmem0 (List.mem_of_getElem? (i := 18) rfl)) rfl, zTB_of (zmem1 (List.mem_of_getElem? (i := 12) rfl)) rfl, zc_X6_number, by decide +kernel, by decide +kernel, by decide +kernel⟩
theorem zc_X6_begins : Cond.code yX6_begins cX6_begins 2 none ∈ zTB := zTB_of (zmem3 (List.mem_of_getElem? (i := 120) rfl)) rfl
theorem zy_X6_begins : Cond.instanceMethod yX6_begins ∈ zTB ∧ Cond.selects yX6_begins.cls yX6_begins yX6_begins ∈ zTB ∧ Cond.initialized yX6_begins.cls ∈ zTB ∧ Cond.code yX6_begins cX6_begins 2 none ∈ zTB ∧ zDs yX6_begins 0 := ⟨zTB_of (zmem3 (List.mem_of_getElem? (i := 119) rfl)) rfl, zTB_of (zmem0 (List.mem_of_getElem? (i := 13) rfl)) rfl, zTB_of (zmem1 (List.mem_of_getElem? (i := 12) rfl)) rfl, zc_X6_begins, by decide +kernel, by decide +kernel, by decide +kernel⟩
theorem zc_X6_memberOf : Cond.code yX6_memberOf cX6_memberOf 6 none ∈ zTB := zTB_of (zmem3 (List.mem_of_getElem? (i := 124) rfl)) rfl
theorem zy_X6_memberOf : Cond.instanceMethod yX6_memberOf ∈ zTB ∧ Cond.selects yX6_memberOf.cls yX6_memberOf yX6_memberOf ∈ zTB ∧ Cond.initialized yX6_memberOf.cls ∈ zTB ∧ Cond.code yX6_memberOf cX6_memberOf 6 none ∈ zTB ∧ zDs yX6_memberOf 4 := ⟨zTB_of (zmem3 (List.mem_of_getElem? (i := 123) rfl)) rfl, zTB_of (zmem0 (List.mem_of_getElem? (i := 14) rfl)) rfl, zTB_of (zmem1 (List.mem_of_getElem? (i := 12) rfl)) rfl, zc_X6_memberOf, by decide +kernel, by decide +kernel, by decide +kernel⟩
theorem zc_X6_readsItem : Cond.code yX6_readsItem cX6_readsItem 6 (some .boolean) ∈ zTB := zTB_of (zmem3 (List.mem_of_getElem? (i := 200) rfl)) rfl
theorem zy_X6_readsItem : Cond.instanceMethod yX6_readsItem ∈ zTB ∧ Cond.selects yX6_readsItem.cls yX6_readsItem yX6_readsItem ∈ zTB ∧ Cond.initialized yX6_readsItem.cls ∈ zTB ∧ Cond.code yX6_readsItem cX6_readsItem 6 (some .boolean) ∈ zTB ∧ zDs yX6_readsItem 1 := ⟨zTB_of (zmem3 (List.mem_of_getElem? (i := 199) rfl)) rfl, zTB_of (zmem0 (List.mem_of_getElem? (i := 17) rfl)) rfl, zTB_of (zmem1 (List.mem_of_getElem? (i := 12) rfl)) rfl, zc_X6_readsItem, by decide +kernel, by decide +kernel, by decide +kernel⟩
theorem zc_X6_readsAll : Cond.code yX6_readsAll cX6_readsAll 2 (some .int) ∈ zTB := zTB_of (zmem3 (List.mem_of_getElem? (i := 196) rfl)) rfl
theorem zy_X6_readsAll : Cond.instanceMethod yX6_readsAll ∈ zTB ∧ Cond.selects yX6_readsAll.cls yX6_readsAll yX6_readsAll ∈ zTB ∧ Cond.initialized yX6_readsAll.cls ∈ zTB ∧ Cond.code yX6_readsAll cX6_readsAll 2 (some .int) ∈ zTB ∧ zDs yX6_readsAll 0 := ⟨zTB_of (zmem3 (List.mem_of_getElem? (i := 195) rfl)) rfl, zTB_of (zmem0 (List.mem_of_getElem? (i := 16) rfl)) rfl, zTB_of (zmem1 (List.mem_of_getElem? (i := 12) rfl)) rfl, zc_X6_readsAll, by decide +kernel, by decide +kernel, by decide +kernel⟩
theorem zc_X6_fault : Cond.code yX6_fault cX6_fault 1 (some .int) ∈ zTB := zTB_of (zmem3 (List.mem_of_getElem? (i := 192) rfl)) rfl
theorem zy_X6_fault : Cond.instanceMethod yX6_fault ∈ zTB ∧ Cond.selects yX6_fault.cls yX6_fault yX6_fault ∈ zTB ∧ Cond.initialized yX6_fault.cls ∈ zTB ∧ Cond.code yX6_fault cX6_fault 1 (some .int) ∈ zTB ∧ zDs yX6_fault 0 := ⟨zTB_of (zmem3 (List.mem_of_getElem? (i := 190) rfl)) rfl, zTB_of (zmem3 (List.mem_of_getElem? (i := 191) rfl)) rfl, zTB_of (zmem1 (List.mem_of_getElem? (i := 12) rfl)) rfl, zc_X6_fault, by decide +kernel, by decide +kernel, by decide +kernel⟩
theorem zc_X6_lays : Cond.code yX6_lays cX6_lays 2 none ∈ zTB := zTB_of (zmem3 (List.mem_of_getElem? (i := 128) rfl)) rfl
theorem zy_X6_lays : Cond.instanceMethod yX6_lays ∈ zTB ∧ Cond.selects yX6_lays.cls yX6_lays yX6_lays ∈ zTB ∧ Cond.initialized yX6_lays.cls ∈ zTB ∧ Cond.code yX6_lays cX6_lays 2 none ∈ zTB ∧ zDs yX6_lays 0 := ⟨zTB_of (zmem3 (List.mem_of_getElem? (i := 127) rfl)) rfl, zTB_of (zmem0 (List.mem_of_getElem? (i := 15) rfl)) rfl, zTB_of (zmem1 (List.mem_of_getElem? (i := 12) rfl)) rfl, zc_X6_lays, by decide +kernel, by decide +kernel, by decide +kernel⟩
theorem zc_X6_lay : Cond.code yX6_lay cX6_lay 1 (some .int) ∈ zTB := zTB_of (zmem3 (List.mem_of_getElem? (i := 215) rfl)) rfl
theorem zy_X6_lay : Cond.instanceMethod yX6_lay ∈ zTB ∧ Cond.selects yX6_lay.cls yX6_lay yX6_lay ∈ zTB ∧ Cond.initialized yX6_lay.cls ∈ zTB ∧ Cond.code yX6_lay cX6_lay 1 (some .int) ∈ zTB ∧ zDs yX6_lay 0 := ⟨zTB_of (zmem3 (List.mem_of_getElem? (i := 213) rfl)) rfl, zTB_of (zmem3 (List.mem_of_getElem? (i := 214) rfl)) rfl, zTB_of (zmem1 (List.mem_of_getElem? (i := 12) rfl)) rfl, zc_X6_lay, by decide +kernel, by decide +kernel, by decide +kernel⟩
theorem zc_X6_wouldEat : Cond.code yX6_wouldEat cX6_wouldEat 7 (some .int) ∈ zTB := zTB_of (zmem3 (List.mem_of_getElem? (i := 227) rfl)) rfl
theorem zy_X6_wouldEat : Cond.instanceMethod yX6_wouldEat ∈ zTB ∧ Cond.selects yX6_wouldEat.cls yX6_wouldEat yX6_wouldEat ∈ zTB ∧ Cond.initialized yX6_wouldEat.cls ∈ zTB ∧ Cond.code yX6_wouldEat cX6_wouldEat 7 (some .int) ∈ zTB ∧ zDs yX6_wouldEat 1 := ⟨zTB_of (zmem3 (List.mem_of_getElem? (i := 226) rfl)) rfl, zTB_of (zmem0 (List.mem_of_getElem? (i := 21) rfl)) rfl, zTB_of (zmem1 (List.mem_of_getElem? (i := 12) rfl)) rfl, zc_X6_wouldEat, by decide +kernel, by decide +kernel, by decide +kernel⟩
theorem zc_X6_member : Cond.code yX6_member cX6_member 3 (some .int) ∈ zTB := zTB_of (zmem3 (List.mem_of_getElem? (i := 219) rfl)) rfl
theorem zy_X6_member : Cond.instanceMethod yX6_member ∈ zTB ∧ Cond.selects yX6_member.cls yX6_member yX6_member ∈ zTB ∧ Cond.initialized yX6_member.cls ∈ zTB ∧ Cond.code yX6_member cX6_member 3 (some .int) ∈ zTB ∧ zDs yX6_member 2 := ⟨zTB_of (zmem3 (List.mem_of_getElem? (i := 217) rfl)) rfl, zTB_of (zmem3 (List.mem_of_getElem? (i := 218) rfl)) rfl, zTB_of (zmem1 (List.mem_of_getElem? (i := 12) rfl)) rfl, zc_X6_member, by decide +kernel, by decide +kernel, by decide +kernel⟩
theorem zc_X6_keeps : Cond.code yX6_keeps cX6_keeps 2 none ∈ zTB := zTB_of (zmem3 (List.mem_of_getElem? (i := 235) rfl)) rfl
theorem zy_X6_keeps : Cond.instanceMethod yX6_keeps ∈ zTB ∧ Cond.selects yX6_keeps.cls yX6_keeps yX6_keeps ∈ zTB ∧ Cond.initialized yX6_keeps.cls ∈ zTB ∧ Cond.code yX6_keeps cX6_keeps 2 none ∈ zTB ∧ zDs yX6_keeps 0 := ⟨zTB_of (zmem3 (List.mem_of_getElem? (i := 234) rfl)) rfl, zTB_of (zmem0 (List.mem_of_getElem? (i := 22) rfl)) rfl, zTB_of (zmem1 (List.mem_of_getElem? (i := 12) rfl)) rfl, zc_X6_keeps, by decide +kernel, by decide +kernel, by decide +kernel⟩
theorem zc_X6_cools : Cond.code yX6_cools cX6_cools 1 none ∈ zTB := zTB_of (zmem4 (List.mem_of_getElem? (i := 7) rfl)) rfl
theorem zy_X6_cools : Cond.instanceMethod yX6_cools ∈ zTB ∧ Cond.selects yX6_cools.cls yX6_cools yX6_cools ∈ zTB ∧ Cond.initialized yX6_cools.cls ∈ zTB ∧ Cond.code yX6_cools cX6_cools 1 none ∈ zTB ∧ zDs yX6_cools 0 := ⟨zTB_of (zmem4 (List.mem_of_getElem? (i := 6) rfl)) rfl, zTB_of (zmem0 (List.mem_of_getElem? (i := 25) rfl)) rfl, zTB_of (zmem1 (List.mem_of_getElem? (i := 12) rfl)) rfl, zc_X6_cools, by decide +kernel, by decide +kernel, by decide +kernel⟩
theorem zc_X6_eats : Cond.code yX6_eats cX6_eats 5 (some .int) ∈ zTB := zTB_of (zmem4 (List.mem_of_getElem? (i := 3) rfl)) rfl
theorem zy_X6_eats : Cond.instanceMethod yX6_eats ∈ zTB ∧ Cond.selects yX6_eats.cls yX6_eats yX6_eats ∈ zTB ∧ Cond.initialized yX6_eats.cls ∈ zTB ∧ Cond.code yX6_eats cX6_eats 5 (some .int) ∈ zTB ∧ zDs yX6_eats 1 := ⟨zTB_of (zmem4 (List.mem_of_getElem? (i := 2) rfl)) rfl, zTB_of (zmem0 (List.mem_of_getElem? (i := 24) rfl)) rfl, zTB_of (zmem1 (List.mem_of_getElem? (i := 12) rfl)) rfl, zc_X6_eats, by decide +kernel, by decide +kernel, by decide +kernel⟩
theorem zc_X6_eat : Cond.code yX6_eat cX6_eat 4 (some .int) ∈ zTB := zTB_of (zmem3 (List.mem_of_getElem? (i := 231) rfl)) rfl
theorem zy_X6_eat : Cond.instanceMethod yX6_eat ∈ zTB ∧ Cond.selects yX6_eat.cls yX6_eat yX6_eat ∈ zTB ∧ Cond.initialized yX6_eat.cls ∈ zTB ∧ Cond.code yX6_eat cX6_eat 4 (some .int) ∈ zTB ∧ zDs yX6_eat 1 := ⟨zTB_of (zmem3 (List.mem_of_getElem? (i := 229) rfl)) rfl, zTB_of (zmem3 (List.mem_of_getElem? (i := 230) rfl)) rfl, zTB_of (zmem1 (List.mem_of_getElem? (i := 12) rfl)) rfl, zc_X6_eat, by decide +kernel, by decide +kernel, by decide +kernel⟩
theorem zc_X6_salt : Cond.code yX6_salt cX6_salt 1 (some .int) ∈ zTB := zTB_of (zmem4 (List.mem_of_getElem? (i := 11) rfl)) rfl
theorem zy_X6_salt : Cond.instanceMethod yX6_salt ∈ zTB ∧ Cond.selects yX6_salt.cls yX6_salt yX6_salt ∈ zTB ∧ Cond.initialized yX6_salt.cls ∈ zTB ∧ Cond.code yX6_salt cX6_salt 1 (some .int) ∈ zTB ∧ zDs yX6_salt 0 := ⟨zTB_of (zmem4 (List.mem_of_getElem? (i := 9) rfl)) rfl, zTB_of (zmem4 (List.mem_of_getElem? (i := 10) rfl)) rfl, zTB_of (zmem1 (List.mem_of_getElem? (i := 12) rfl)) rfl, zc_X6_salt, by decide +kernel, by decide +kernel, by decide +kernel⟩
theorem zc_X6_cooks : Cond.code yX6_cooks cX6_cooks 2 none ∈ zTB := zTB_of (zmem4 (List.mem_of_getElem? (i := 19) rfl)) rfl
theorem zy_X6_cooks : Cond.instanceMethod yX6_cooks ∈ zTB ∧ Cond.selects yX6_cooks.cls yX6_cooks yX6_cooks ∈ zTB ∧ Cond.initialized yX6_cooks.cls ∈ zTB ∧ Cond.code yX6_cooks cX6_cooks 2 none ∈ zTB ∧ zDs yX6_cooks 1 := ⟨zTB_of (zmem4 (List.mem_of_getElem? (i := 18) rfl)) rfl, zTB_of (zmem0 (List.mem_of_getElem? (i := 26) rfl)) rfl, zTB_of (zmem1 (List.mem_of_getElem? (i := 12) rfl)) rfl, zc_X6_cooks, by decide +kernel, by decide +kernel, by decide +kernel⟩
theorem zc_X6_cook : Cond.code yX6_cook cX6_cook 2 (some .int) ∈ zTB := zTB_of (zmem4 (List.mem_of_getElem? (i := 15) rfl)) rfl
theorem zy_X6_cook : Cond.instanceMethod yX6_cook ∈ zTB ∧ Cond.selects yX6_cook.cls yX6_cook yX6_cook ∈ zTB ∧ Cond.initialized yX6_cook.cls ∈ zTB ∧ Cond.code yX6_cook cX6_cook 2 (some .int) ∈ zTB ∧ zDs yX6_cook 1 := ⟨zTB_of (zmem4 (List.mem_of_getElem? (i := 13) rfl)) rfl, zTB_of (zmem4 (List.mem_of_getElem? (i := 14) rfl)) rfl, zTB_of (zmem1 (List.mem_of_getElem? (i := 12) rfl)) rfl, zc_X6_cook, by decide +kernel, by decide +kernel, by decide +kernel⟩
theorem zc_X6_cool : Cond.code yX6_cool cX6_cool 1 (some .int) ∈ zTB := zTB_of (zmem4 (List.mem_of_getElem? (i := 23) rfl)) rfl
theorem zy_X6_cool : Cond.instanceMethod yX6_cool ∈ zTB ∧ Cond.selects yX6_cool.cls yX6_cool yX6_cool ∈ zTB ∧ Cond.initialized yX6_cool.cls ∈ zTB ∧ Cond.code yX6_cool cX6_cool 1 (some .int) ∈ zTB ∧ zDs yX6_cool 0 := ⟨zTB_of (zmem4 (List.mem_of_getElem? (i := 21) rfl)) rfl, zTB_of (zmem4 (List.mem_of_getElem? (i := 22) rfl)) rfl, zTB_of (zmem1 (List.mem_of_getElem? (i := 12) rfl)) rfl, zc_X6_cool, by decide +kernel, by decide +kernel, by decide +kernel⟩
theorem zc_X6_swaps : Cond.code yX6_swaps cX6_swaps 5 none ∈ zTB := zTB_of (zmem4 (List.mem_of_getElem? (i := 31) rfl)) rfl
theorem zy_X6_swaps : Cond.instanceMethod yX6_swaps ∈ zTB ∧ Cond.selects yX6_swaps.cls yX6_swaps yX6_swaps ∈ zTB ∧ Cond.initialized yX6_swaps.cls ∈ zTB ∧ Cond.code yX6_swaps cX6_swaps 5 none ∈ zTB ∧ zDs yX6_swaps 2 := ⟨zTB_of (zmem4 (List.mem_of_getElem? (i := 30) rfl)) rfl, zTB_of (zmem0 (List.mem_of_getElem? (i := 27) rfl)) rfl, zTB_of (zmem1 (List.mem_of_getElem? (i := 12) rfl)) rfl, zc_X6_swaps, by decide +kernel, by decide +kernel, by decide +kernel⟩
theorem zc_X6_trade : Cond.code yX6_trade cX6_trade 3 (some .int) ∈ zTB := zTB_of (zmem4 (List.mem_of_getElem? (i := 27) rfl)) rfl
theorem zy_X6_trade : Cond.instanceMethod yX6_trade ∈ zTB ∧ Cond.selects yX6_trade.cls yX6_trade yX6_trade ∈ zTB ∧ Cond.initialized yX6_trade.cls ∈ zTB ∧ Cond.code yX6_trade cX6_trade 3 (some .int) ∈ zTB ∧ zDs yX6_trade 2 := ⟨zTB_of (zmem4 (List.mem_of_getElem? (i := 25) rfl)) rfl, zTB_of (zmem4 (List.mem_of_getElem? (i := 26) rfl)) rfl, zTB_of (zmem1 (List.mem_of_getElem? (i := 12) rfl)) rfl, zc_X6_trade, by decide +kernel, by decide +kernel, by decide +kernel⟩
theorem zc_X6_sumOf : Cond.code yX6_sumOf cX6_sumOf 4 (some .int) ∈ zTB := zTB_of (zmem4 (List.mem_of_getElem? (i := 43) rfl)) rfl
theorem zy_X6_sumOf : Cond.instanceMethod yX6_sumOf ∈ zTB ∧ Cond.selects yX6_sumOf.cls yX6_sumOf yX6_sumOf ∈ zTB ∧ Cond.initialized yX6_sumOf.cls ∈ zTB ∧ Cond.code yX6_sumOf cX6_sumOf 4 (some .int) ∈ zTB ∧ zDs yX6_sumOf 1 := ⟨zTB_of (zmem4 (List.mem_of_getElem? (i := 42) rfl)) rfl, zTB_of (zmem0 (List.mem_of_getElem? (i := 29) rfl)) rfl, zTB_of (zmem1 (List.mem_of_getElem? (i := 12) rfl)) rfl, zc_X6_sumOf, by decide +kernel, by decide +kernel, by decide +kernel⟩
theorem zc_X6_starves : Cond.code yX6_starves cX6_starves 3 none ∈ zTB := zTB_of (zmem4 (List.mem_of_getElem? (i := 39) rfl)) rfl
theorem zy_X6_starves : Cond.instanceMethod yX6_starves ∈ zTB ∧ Cond.selects yX6_starves.cls yX6_starves yX6_starves ∈ zTB ∧ Cond.initialized yX6_starves.cls ∈ zTB ∧ Cond.code yX6_starves cX6_starves 3 none ∈ zTB ∧ zDs yX6_starves 0 := ⟨zTB_of (zmem4 (List.mem_of_getElem? (i := 38) rfl)) rfl, zTB_of (zmem0 (List.mem_of_getElem? (i := 28) rfl)) rfl, zTB_of (zmem1 (List.mem_of_getElem? (i := 12) rfl)) rfl, zc_X6_starves, by decide +kernel, by decide +kernel, by decide +kernel⟩
theorem zc_X6_fast : Cond.code yX6_fast cX6_fast 1 (some .int) ∈ zTB := zTB_of (zmem4 (List.mem_of_getElem? (i := 35) rfl)) rfl
theorem zy_X6_fast : Cond.instanceMethod yX6_fast ∈ zTB ∧ Cond.selects yX6_fast.cls yX6_fast yX6_fast ∈ zTB ∧ Cond.initialized yX6_fast.cls ∈ zTB ∧ Cond.code yX6_fast cX6_fast 1 (some .int) ∈ zTB ∧ zDs yX6_fast 0 := ⟨zTB_of (zmem4 (List.mem_of_getElem? (i := 33) rfl)) rfl, zTB_of (zmem4 (List.mem_of_getElem? (i := 34) rfl)) rfl, zTB_of (zmem1 (List.mem_of_getElem? (i := 12) rfl)) rfl, zc_X6_fast, by decide +kernel, by decide +kernel, by decide +kernel⟩
theorem zc_X6_undo : Cond.code yX6_undo cX6_undo 2 (some .int) ∈ zTB := zTB_of (zmem4 (List.mem_of_getElem? (i := 47) rfl)) rfl
theorem zy_X6_undo : Cond.instanceMethod yX6_undo ∈ zTB ∧ Cond.selects yX6_undo.cls yX6_undo yX6_undo ∈ zTB ∧ Cond.initialized yX6_undo.cls ∈ zTB ∧ Cond.code yX6_undo cX6_undo 2 (some .int) ∈ zTB ∧ zDs yX6_undo 0 := ⟨zTB_of (zmem4 (List.mem_of_getElem? (i := 45) rfl)) rfl, zTB_of (zmem4 (List.mem_of_getElem? (i := 46) rfl)) rfl, zTB_of (zmem1 (List.mem_of_getElem? (i := 12) rfl)) rfl, zc_X6_undo, by decide +kernel, by decide +kernel, by decide +kernel⟩
theorem zc_X6_holds : Cond.code yX6_holds cX6_holds 2 none ∈ zTB := zTB_of (zmem4 (List.mem_of_getElem? (i := 63) rfl)) rfl
theorem zy_X6_holds : Cond.instanceMethod yX6_holds ∈ zTB ∧ Cond.selects yX6_holds.cls yX6_holds yX6_holds ∈ zTB ∧ Cond.initialized yX6_holds.cls ∈ zTB ∧ Cond.code yX6_holds cX6_holds 2 none ∈ zTB ∧ zDs yX6_holds 0 := ⟨zTB_of (zmem4 (List.mem_of_getElem? (i := 62) rfl)) rfl, zTB_of (zmem0 (List.mem_of_getElem? (i := 31) rfl)) rfl, zTB_of (zmem1 (List.mem_of_getElem? (i := 12) rfl)) rfl, zc_X6_holds, by decide +kernel, by decide +kernel, by decide +kernel⟩
theorem zc_X6_lets : Cond.code yX6_lets cX6_lets 2 none ∈ zTB := zTB_of (zmem4 (List.mem_of_getElem? (i := 67) rfl)) rfl
theorem zy_X6_lets : Cond.instanceMethod yX6_lets ∈ zTB ∧ Cond.selects yX6_lets.cls yX6_lets yX6_lets ∈ zTB ∧ Cond.initialized yX6_lets.cls ∈ zTB ∧ Cond.code yX6_lets cX6_lets 2 none ∈ zTB ∧ zDs yX6_lets 0 := ⟨zTB_of (zmem4 (List.mem_of_getElem? (i := 66) rfl)) rfl, zTB_of (zmem0 (List.mem_of_getElem? (i := 32) rfl)) rfl, zTB_of (zmem1 (List.mem_of_getElem? (i := 12) rfl)) rfl, zc_X6_lets, by decide +kernel, by decide +kernel, by decide +kernel⟩
theorem zc_X6_passesBy : Cond.code yX6_passesBy cX6_passesBy 5 (some .int) ∈ zTB := zTB_of (zmem4 (List.mem_of_getElem? (i := 55) rfl)) rfl
theorem zy_X6_passesBy : Cond.instanceMethod yX6_passesBy ∈ zTB ∧ Cond.selects yX6_passesBy.cls yX6_passesBy yX6_passesBy ∈ zTB ∧ Cond.initialized yX6_passesBy.cls ∈ zTB ∧ Cond.code yX6_passesBy cX6_passesBy 5 (some .int) ∈ zTB ∧ zDs yX6_passesBy 1 := ⟨zTB_of (zmem4 (List.mem_of_getElem? (i := 54) rfl)) rfl, zTB_of (zmem0 (List.mem_of_getElem? (i := 30) rfl)) rfl, zTB_of (zmem1 (List.mem_of_getElem? (i := 12) rfl)) rfl, zc_X6_passesBy, by decide +kernel, by decide +kernel, by decide +kernel⟩
theorem zc_X6_isPassed : Cond.code yX6_isPassed cX6_isPassed 2 (some .boolean) ∈ zTB := zTB_of (zmem4 (List.mem_of_getElem? (i := 75) rfl)) rfl
theorem zy_X6_isPassed : Cond.instanceMethod yX6_isPassed ∈ zTB ∧ Cond.selects yX6_isPassed.cls yX6_isPassed yX6_isPassed ∈ zTB ∧ Cond.initialized yX6_isPassed.cls ∈ zTB ∧ Cond.code yX6_isPassed cX6_isPassed 2 (some .boolean) ∈ zTB ∧ zDs yX6_isPassed 1 := ⟨zTB_of (zmem4 (List.mem_of_getElem? (i := 74) rfl)) rfl, zTB_of (zmem0 (List.mem_of_getElem? (i := 33) rfl)) rfl, zTB_of (zmem1 (List.mem_of_getElem? (i := 12) rfl)) rfl, zc_X6_isPassed, by decide +kernel, by decide +kernel, by decide +kernel⟩
theorem zc_X6_passes : Cond.code yX6_passes cX6_passes 1 (some .int) ∈ zTB := zTB_of (zmem4 (List.mem_of_getElem? (i := 51) rfl)) rfl
theorem zy_X6_passes : Cond.instanceMethod yX6_passes ∈ zTB ∧ Cond.selects yX6_passes.cls yX6_passes yX6_passes ∈ zTB ∧ Cond.initialized yX6_passes.cls ∈ zTB ∧ Cond.code yX6_passes cX6_passes 1 (some .int) ∈ zTB ∧ zDs yX6_passes 0 := ⟨zTB_of (zmem4 (List.mem_of_getElem? (i := 49) rfl)) rfl, zTB_of (zmem4 (List.mem_of_getElem? (i := 50) rfl)) rfl, zTB_of (zmem1 (List.mem_of_getElem? (i := 12) rfl)) rfl, zc_X6_passes, by decide +kernel, by decide +kernel, by decide +kernel⟩
theorem zc_X6_left : Cond.code yX6_left cX6_left 3 (some .int) ∈ zTB := zTB_of (zmem4 (List.mem_of_getElem? (i := 59) rfl)) rfl
theorem zy_X6_left : Cond.instanceMethod yX6_left ∈ zTB ∧ Cond.selects yX6_left.cls yX6_left yX6_left ∈ zTB ∧ Cond.initialized yX6_left.cls ∈ zTB ∧ Cond.code yX6_left cX6_left 3 (some .int) ∈ zTB ∧ zDs yX6_left 1 := ⟨zTB_of (zmem4 (List.mem_of_getElem? (i := 57) rfl)) rfl, zTB_of (zmem4 (List.mem_of_getElem? (i := 58) rfl)) rfl, zTB_of (zmem1 (List.mem_of_getElem? (i := 12) rfl)) rfl, zc_X6_left, by decide +kernel, by decide +kernel, by decide +kernel⟩
theorem zc_X6_scraper : Cond.code yX6_scraper cX6_scraper 1 (some .int) ∈ zTB := zTB_of (zmem4 (List.mem_of_getElem? (i := 71) rfl)) rfl
theorem zy_X6_scraper : Cond.instanceMethod yX6_scraper ∈ zTB ∧ Cond.selects yX6_scraper.cls yX6_scraper yX6_scraper ∈ zTB ∧ Cond.initialized yX6_scraper.cls ∈ zTB ∧ Cond.code yX6_scraper cX6_scraper 1 (some .int) ∈ zTB ∧ zDs yX6_scraper 0 := ⟨zTB_of (zmem4 (List.mem_of_getElem? (i := 69) rfl)) rfl, zTB_of (zmem4 (List.mem_of_getElem? (i := 70) rfl)) rfl, zTB_of (zmem1 (List.mem_of_getElem? (i := 12) rfl)) rfl, zc_X6_scraper, by decide +kernel, by decide +kernel, by decide +kernel⟩
theorem zc_X6_spoil : Cond.code yX6_spoil cX6_spoil 4 (some .int) ∈ zTB := zTB_of (zmem4 (List.mem_of_getElem? (i := 79) rfl)) rfl
theorem zy_X6_spoil : Cond.instanceMethod yX6_spoil ∈ zTB ∧ Cond.selects yX6_spoil.cls yX6_spoil yX6_spoil ∈ zTB ∧ Cond.initialized yX6_spoil.cls ∈ zTB ∧ Cond.code yX6_spoil cX6_spoil 4 (some .int) ∈ zTB ∧ zDs yX6_spoil 0 := ⟨zTB_of (zmem4 (List.mem_of_getElem? (i := 77) rfl)) rfl, zTB_of (zmem4 (List.mem_of_getElem? (i := 78) rfl)) rfl, zTB_of (zmem1 (List.mem_of_getElem? (i := 12) rfl)) rfl, zc_X6_spoil, by decide +kernel, by decide +kernel, by decide +kernel⟩
theorem zc_X6_waits : Cond.code yX6_waits cX6_waits 4 (some .int) ∈ zTB := zTB_of (zmem4 (List.mem_of_getElem? (i := 83) rfl)) rfl
theorem zy_X6_waits : Cond.instanceMethod yX6_waits ∈ zTB ∧ Cond.selects yX6_waits.cls yX6_waits yX6_waits ∈ zTB ∧ Cond.initialized yX6_waits.cls ∈ zTB ∧ Cond.code yX6_waits cX6_waits 4 (some .int) ∈ zTB ∧ zDs yX6_waits 0 := ⟨zTB_of (zmem4 (List.mem_of_getElem? (i := 81) rfl)) rfl, zTB_of (zmem4 (List.mem_of_getElem? (i := 82) rfl)) rfl, zTB_of (zmem1 (List.mem_of_getElem? (i := 12) rfl)) rfl, zc_X6_waits, by decide +kernel, by decide +kernel, by decide +kernel⟩
theorem zc_X6_most : Cond.code yX6_most cX6_most 4 (some .int) ∈ zTB := zTB_of (zmem4 (List.mem_of_getElem? (i := 87) rfl)) rfl
theorem zy_X6_most : Cond.instanceMethod yX6_most ∈ zTB ∧ Cond.selects yX6_most.cls yX6_most yX6_most ∈ zTB ∧ Cond.initialized yX6_most.cls ∈ zTB ∧ Cond.code yX6_most cX6_most 4 (some .int) ∈ zTB ∧ zDs yX6_most 0 := ⟨zTB_of (zmem4 (List.mem_of_getElem? (i := 85) rfl)) rfl, zTB_of (zmem4 (List.mem_of_getElem? (i := 86) rfl)) rfl, zTB_of (zmem1 (List.mem_of_getElem? (i := 12) rfl)) rfl, zc_X6_most, by decide +kernel, by decide +kernel, by decide +kernel⟩
theorem zc_X6_fasts : Cond.code yX6_fasts cX6_fasts 3 (some .int) ∈ zTB := zTB_of (zmem4 (List.mem_of_getElem? (i := 91) rfl)) rfl
theorem zy_X6_fasts : Cond.instanceMethod yX6_fasts ∈ zTB ∧ Cond.selects yX6_fasts.cls yX6_fasts yX6_fasts ∈ zTB ∧ Cond.initialized yX6_fasts.cls ∈ zTB ∧ Cond.code yX6_fasts cX6_fasts 3 (some .int) ∈ zTB ∧ zDs yX6_fasts 0 := ⟨zTB_of (zmem4 (List.mem_of_getElem? (i := 89) rfl)) rfl, zTB_of (zmem4 (List.mem_of_getElem? (i := 90) rfl)) rfl, zTB_of (zmem1 (List.mem_of_getElem? (i := 12) rfl)) rfl, zc_X6_fasts, by decide +kernel, by decide +kernel, by decide +kernel⟩
theorem zc_X6_cabal : Cond.code yX6_cabal cX6_cabal 4 (some .int) ∈ zTB := zTB_of (zmem4 (List.mem_of_getElem? (i := 95) rfl)) rfl
theorem zy_X6_cabal : Cond.instanceMethod yX6_cabal ∈ zTB ∧ Cond.selects yX6_cabal.cls yX6_cabal yX6_cabal ∈ zTB ∧ Cond.initialized yX6_cabal.cls ∈ zTB ∧ Cond.code yX6_cabal cX6_cabal 4 (some .int) ∈ zTB ∧ zDs yX6_cabal 1 := ⟨zTB_of (zmem4 (List.mem_of_getElem? (i := 93) rfl)) rfl, zTB_of (zmem4 (List.mem_of_getElem? (i := 94) rfl)) rfl, zTB_of (zmem1 (List.mem_of_getElem? (i := 12) rfl)) rfl, zc_X6_cabal, by decide +kernel, by decide +kernel, by decide +kernel⟩
theorem zc_X6_trades : Cond.code yX6_trades cX6_trades 4 (some .int) ∈ zTB := zTB_of (zmem4 (List.mem_of_getElem? (i := 102) rfl)) rfl
theorem zy_X6_trades : Cond.instanceMethod yX6_trades ∈ zTB ∧ Cond.selects yX6_trades.cls yX6_trades yX6_trades ∈ zTB ∧ Cond.initialized yX6_trades.cls ∈ zTB ∧ Cond.code yX6_trades cX6_trades 4 (some .int) ∈ zTB ∧ zDs yX6_trades 0 := ⟨zTB_of (zmem4 (List.mem_of_getElem? (i := 100) rfl)) rfl, zTB_of (zmem4 (List.mem_of_getElem? (i := 101) rfl)) rfl, zTB_of (zmem1 (List.mem_of_getElem? (i := 12) rfl)) rfl, zc_X6_trades, by decide +kernel, by decide +kernel, by decide +kernel⟩
theorem zc_X6_orders : Cond.code yX6_orders cX6_orders 3 (some .int) ∈ zTB := zTB_of (zmem4 (List.mem_of_getElem? (i := 109) rfl)) rfl
theorem zy_X6_orders : Cond.static yX6_orders ∈ zTB ∧ Cond.initialized yX6_orders.cls ∈ zTB ∧ Cond.code yX6_orders cX6_orders 3 (some .int) ∈ zTB ∧ zDs yX6_orders 1 := ⟨zTB_of (zmem4 (List.mem_of_getElem? (i := 108) rfl)) rfl, zTB_of (zmem1 (List.mem_of_getElem? (i := 12) rfl)) rfl, zc_X6_orders, by decide +kernel, by decide +kernel, by decide +kernel⟩
theorem zc_X6_partOf : Cond.code yX6_partOf cX6_partOf 6 (some .int) ∈ zTB := zTB_of (zmem4 (List.mem_of_getElem? (i := 112) rfl)) rfl
theorem zy_X6_partOf : Cond.static yX6_partOf ∈ zTB ∧ Cond.initialized yX6_partOf.cls ∈ zTB ∧ Cond.code yX6_partOf cX6_partOf 6 (some .int) ∈ zTB ∧ zDs yX6_partOf 3 := ⟨zTB_of (zmem4 (List.mem_of_getElem? (i := 111) rfl)) rfl, zTB_of (zmem1 (List.mem_of_getElem? (i := 12) rfl)) rfl, zc_X6_partOf, by decide +kernel, by decide +kernel, by decide +kernel⟩
theorem zc_X6_power : Cond.code yX6_power cX6_power 5 (some .int) ∈ zTB := zTB_of (zmem4 (List.mem_of_getElem? (i := 106) rfl)) rfl
theorem zy_X6_power : Cond.instanceMethod yX6_power ∈ zTB ∧ Cond.selects yX6_power.cls yX6_power yX6_power ∈ zTB ∧ Cond.initialized yX6_power.cls ∈ zTB ∧ Cond.code yX6_power cX6_power 5 (some .int) ∈ zTB ∧ zDs yX6_power 2 := ⟨zTB_of (zmem4 (List.mem_of_getElem? (i := 104) rfl)) rfl, zTB_of (zmem4 (List.mem_of_getElem? (i := 105) rfl)) rfl, zTB_of (zmem1 (List.mem_of_getElem? (i := 12) rfl)) rfl, zc_X6_power, by decide +kernel, by decide +kernel, by decide +kernel⟩
theorem zc_X6_seen : Cond.code yX6_seen cX6_seen 3 (some .int) ∈ zTB := zTB_of (zmem4 (List.mem_of_getElem? (i := 116) rfl)) rfl
theorem zy_X6_seen : Cond.instanceMethod yX6_seen ∈ zTB ∧ Cond.selects yX6_seen.cls yX6_seen yX6_seen ∈ zTB ∧ Cond.initialized yX6_seen.cls ∈ zTB ∧ Cond.code yX6_seen cX6_seen 3 (some .int) ∈ zTB ∧ zDs yX6_seen 2 := ⟨zTB_of (zmem4 (List.mem_of_getElem? (i := 114) rfl)) rfl, zTB_of (zmem4 (List.mem_of_getElem? (i := 115) rfl)) rfl, zTB_of (zmem1 (List.mem_of_getElem? (i := 12) rfl)) rfl, zc_X6_seen, by decide +kernel, by decide +kernel, by decide +kernel⟩
theorem zc_X6_forget : Cond.code yX6_forget cX6_forget 2 (some .int) ∈ zTB := zTB_of (zmem4 (List.mem_of_getElem? (i := 120) rfl)) rfl
theorem zy_X6_forget : Cond.instanceMethod yX6_forget ∈ zTB ∧ Cond.selects yX6_forget.cls yX6_forget yX6_forget ∈ zTB ∧ Cond.initialized yX6_forget.cls ∈ zTB ∧ Cond.code yX6_forget cX6_forget 2 (some .int) ∈ zTB ∧ zDs yX6_forget 0 := ⟨zTB_of (zmem4 (List.mem_of_getElem? (i := 118) rfl)) rfl, zTB_of (zmem4 (List.mem_of_getElem? (i := 119) rfl)) rfl, zTB_of (zmem1 (List.mem_of_getElem? (i := 12) rfl)) rfl, zc_X6_forget, by decide +kernel, by decide +kernel, by decide +kernel⟩
theorem zc_X6_may : Cond.code yX6_may cX6_may 7 (some .int) ∈ zTB := zTB_of (zmem4 (List.mem_of_getElem? (i := 124) rfl)) rfl
theorem zy_X6_may : Cond.instanceMethod yX6_may ∈ zTB ∧ Cond.selects yX6_may.cls yX6_may yX6_may ∈ zTB ∧ Cond.initialized yX6_may.cls ∈ zTB ∧ Cond.code yX6_may cX6_may 7 (some .int) ∈ zTB ∧ zDs yX6_may 1 := ⟨zTB_of (zmem4 (List.mem_of_getElem? (i := 122) rfl)) rfl, zTB_of (zmem4 (List.mem_of_getElem? (i := 123) rfl)) rfl, zTB_of (zmem1 (List.mem_of_getElem? (i := 12) rfl)) rfl, zc_X6_may, by decide +kernel, by decide +kernel, by decide +kernel⟩
theorem zc_X6_likely : Cond.code yX6_likely cX6_likely 8 (some .int) ∈ zTB := zTB_of (zmem4 (List.mem_of_getElem? (i := 128) rfl)) rfl
theorem zy_X6_likely : Cond.instanceMethod yX6_likely ∈ zTB ∧ Cond.selects yX6_likely.cls yX6_likely yX6_likely ∈ zTB ∧ Cond.initialized yX6_likely.cls ∈ zTB ∧ Cond.code yX6_likely cX6_likely 8 (some .int) ∈ zTB ∧ zDs yX6_likely 2 := ⟨zTB_of (zmem4 (List.mem_of_getElem? (i := 126) rfl)) rfl, zTB_of (zmem4 (List.mem_of_getElem? (i := 127) rfl)) rfl, zTB_of (zmem1 (List.mem_of_getElem? (i := 12) rfl)) rfl, zc_X6_likely, by decide +kernel, by decide +kernel, by decide +kernel⟩
theorem zc_X6_turn : Cond.code yX6_turn cX6_turn 3 none ∈ zTB := zTB_of (zmem4 (List.mem_of_getElem? (i := 139) rfl)) rfl
theorem zy_X6_turn : Cond.instanceMethod yX6_turn ∈ zTB ∧ Cond.selects yX6_turn.cls yX6_turn yX6_turn ∈ zTB ∧ Cond.initialized yX6_turn.cls ∈ zTB ∧ Cond.code yX6_turn cX6_turn 3 none ∈ zTB ∧ zDs yX6_turn 1 := ⟨zTB_of (zmem4 (List.mem_of_getElem? (i := 138) rfl)) rfl, zTB_of (zmem0 (List.mem_of_getElem? (i := 34) rfl)) rfl, zTB_of (zmem1 (List.mem_of_getElem? (i := 12) rfl)) rfl, zc_X6_turn, by decide +kernel, by decide +kernel, by decide +kernel⟩
theorem zc_X6_century : Cond.code yX6_century cX6_century 7 (some .int) ∈ zTB := zTB_of (zmem4 (List.mem_of_getElem? (i := 132) rfl)) rfl
theorem zy_X6_century : Cond.instanceMethod yX6_century ∈ zTB ∧ Cond.selects yX6_century.cls yX6_century yX6_century ∈ zTB ∧ Cond.initialized yX6_century.cls ∈ zTB ∧ Cond.code yX6_century cX6_century 7 (some .int) ∈ zTB ∧ zDs yX6_century 3 := ⟨zTB_of (zmem4 (List.mem_of_getElem? (i := 130) rfl)) rfl, zTB_of (zmem4 (List.mem_of_getElem? (i := 131) rfl)) rfl, zTB_of (zmem1 (List.mem_of_getElem? (i := 12) rfl)) rfl, zc_X6_century, by decide +kernel, by decide +kernel, by decide +kernel⟩
theorem zc_X6_keep : Cond.code yX6_keep cX6_keep 2 (some .int) ∈ zTB := zTB_of (zmem4 (List.mem_of_getElem? (i := 143) rfl)) rfl
theorem zy_X6_keep : Cond.instanceMethod yX6_keep ∈ zTB ∧ Cond.selects yX6_keep.cls yX6_keep yX6_keep ∈ zTB ∧ Cond.initialized yX6_keep.cls ∈ zTB ∧ Cond.code yX6_keep cX6_keep 2 (some .int) ∈ zTB ∧ zDs yX6_keep 0 := ⟨zTB_of (zmem4 (List.mem_of_getElem? (i := 141) rfl)) rfl, zTB_of (zmem4 (List.mem_of_getElem? (i := 142) rfl)) rfl, zTB_of (zmem1 (List.mem_of_getElem? (i := 12) rfl)) rfl, zc_X6_keep, by decide +kernel, by decide +kernel, by decide +kernel⟩
theorem zc_X6_back : Cond.code yX6_back cX6_back 2 (some .int) ∈ zTB := zTB_of (zmem4 (List.mem_of_getElem? (i := 147) rfl)) rfl
theorem zy_X6_back : Cond.instanceMethod yX6_back ∈ zTB ∧ Cond.selects yX6_back.cls yX6_back yX6_back ∈ zTB ∧ Cond.initialized yX6_back.cls ∈ zTB ∧ Cond.code yX6_back cX6_back 2 (some .int) ∈ zTB ∧ zDs yX6_back 0 := ⟨zTB_of (zmem4 (List.mem_of_getElem? (i := 145) rfl)) rfl, zTB_of (zmem4 (List.mem_of_getElem? (i := 146) rfl)) rfl, zTB_of (zmem1 (List.mem_of_getElem? (i := 12) rfl)) rfl, zc_X6_back, by decide +kernel, by decide +kernel, by decide +kernel⟩
theorem zc_X6_count : Cond.code yX6_count cX6_count 2 (some .int) ∈ zTB := zTB_of (zmem4 (List.mem_of_getElem? (i := 151) rfl)) rfl
theorem zy_X6_count : Cond.instanceMethod yX6_count ∈ zTB ∧ Cond.selects yX6_count.cls yX6_count yX6_count ∈ zTB ∧ Cond.initialized yX6_count.cls ∈ zTB ∧ Cond.code yX6_count cX6_count 2 (some .int) ∈ zTB ∧ zDs yX6_count 1 := ⟨zTB_of (zmem4 (List.mem_of_getElem? (i := 149) rfl)) rfl, zTB_of (zmem4 (List.mem_of_getElem? (i := 150) rfl)) rfl, zTB_of (zmem1 (List.mem_of_getElem? (i := 12) rfl)) rfl, zc_X6_count, by decide +kernel, by decide +kernel, by decide +kernel⟩
theorem zc_J6_bitCount_0f7a4 : Cond.code yJ6_bitCount_0f7a4 cJ6_bitCount_0f7a4 1 (some .int) ∈ zTB := zTB_of (zmem3 (List.mem_of_getElem? (i := 9) rfl)) rfl
theorem zy_J6_bitCount_0f7a4 : Cond.static yJ6_bitCount_0f7a4 ∈ zTB ∧ Cond.initialized yJ6_bitCount_0f7a4.cls ∈ zTB ∧ Cond.code yJ6_bitCount_0f7a4 cJ6_bitCount_0f7a4 1 (some .int) ∈ zTB ∧ zDs yJ6_bitCount_0f7a4 1 := ⟨zTB_of (zmem3 (List.mem_of_getElem? (i := 8) rfl)) rfl, zTB_of (zmem1 (List.mem_of_getElem? (i := 14) rfl)) rfl, zc_J6_bitCount_0f7a4, by decide +kernel, by decide +kernel, by decide +kernel⟩
theorem zc_J9_max_7cf53 : Cond.code yJ9_max_7cf53 cJ9_max_7cf53 2 (some .int) ∈ zTB := zTB_of (zmem1 (List.mem_of_getElem? (i := 136) rfl)) rfl
theorem zy_J9_max_7cf53 : Cond.static yJ9_max_7cf53 ∈ zTB ∧ Cond.initialized yJ9_max_7cf53.cls ∈ zTB ∧ Cond.code yJ9_max_7cf53 cJ9_max_7cf53 2 (some .int) ∈ zTB ∧ zDs yJ9_max_7cf53 2 := ⟨zTB_of (zmem1 (List.mem_of_getElem? (i := 135) rfl)) rfl, zTB_of (zmem1 (List.mem_of_getElem? (i := 7) rfl)) rfl, zc_J9_max_7cf53, by decide +kernel, by decide +kernel, by decide +kernel⟩
theorem zc_J9_min_7cf53 : Cond.code yJ9_min_7cf53 cJ9_min_7cf53 2 (some .int) ∈ zTB := zTB_of (zmem2 (List.mem_of_getElem? (i := 95) rfl)) rfl
theorem zy_J9_min_7cf53 : Cond.static yJ9_min_7cf53 ∈ zTB ∧ Cond.initialized yJ9_min_7cf53.cls ∈ zTB ∧ Cond.code yJ9_min_7cf53 cJ9_min_7cf53 2 (some .int) ∈ zTB ∧ zDs yJ9_min_7cf53 2 := ⟨zTB_of (zmem2 (List.mem_of_getElem? (i := 94) rfl)) rfl, zTB_of (zmem1 (List.mem_of_getElem? (i := 7) rfl)) rfl, zc_J9_min_7cf53, by decide +kernel, by decide +kernel, by decide +kernel⟩
theorem zc_J0_length_8abf5 : Cond.code yJ0_length_8abf5 cJ0_length_8abf5 1 (some .int) ∈ zTB := zTB_of (zmem1 (List.mem_of_getElem? (i := 152) rfl)) rfl
theorem zy_J0_length_8abf5 : Cond.instanceMethod yJ0_length_8abf5 ∈ zTB ∧ Cond.selects yJ0_length_8abf5.cls yJ0_length_8abf5 yJ0_length_8abf5 ∈ zTB ∧ Cond.initialized yJ0_length_8abf5.cls ∈ zTB ∧ Cond.code yJ0_length_8abf5 cJ0_length_8abf5 1 (some .int) ∈ zTB ∧ zDs yJ0_length_8abf5 0 := ⟨zTB_of (zmem1 (List.mem_of_getElem? (i := 150) rfl)) rfl, zTB_of (zmem1 (List.mem_of_getElem? (i := 151) rfl)) rfl, zTB_of (zmem1 (List.mem_of_getElem? (i := 8) rfl)) rfl, zc_J0_length_8abf5, by decide +kernel, by decide +kernel, by decide +kernel⟩
theorem zc_J0_charAt_5068e : Cond.code yJ0_charAt_5068e cJ0_charAt_5068e 2 (some .char) ∈ zTB := zTB_of (zmem1 (List.mem_of_getElem? (i := 162) rfl)) rfl
theorem zy_J0_charAt_5068e : Cond.instanceMethod yJ0_charAt_5068e ∈ zTB ∧ Cond.selects yJ0_charAt_5068e.cls yJ0_charAt_5068e yJ0_charAt_5068e ∈ zTB ∧ Cond.initialized yJ0_charAt_5068e.cls ∈ zTB ∧ Cond.code yJ0_charAt_5068e cJ0_charAt_5068e 2 (some .char) ∈ zTB ∧ zDs yJ0_charAt_5068e 1 := ⟨zTB_of (zmem1 (List.mem_of_getElem? (i := 160) rfl)) rfl, zTB_of (zmem1 (List.mem_of_getElem? (i := 161) rfl)) rfl, zTB_of (zmem1 (List.mem_of_getElem? (i := 8) rfl)) rfl, zc_J0_charAt_5068e, by decide +kernel, by decide +kernel, by decide +kernel⟩
theorem zc_J0_coder_7d493 : Cond.code yJ0_coder_7d493 cJ0_coder_7d493 1 (some .byte) ∈ zTB := zTB_of (zmem1 (List.mem_of_getElem? (i := 156) rfl)) rfl
theorem zy_J0_coder_7d493 : Cond.instanceMethod yJ0_coder_7d493 ∈ zTB ∧ Cond.selects yJ0_coder_7d493.cls yJ0_coder_7d493 yJ0_coder_7d493 ∈ zTB ∧ Cond.initialized yJ0_coder_7d493.cls ∈ zTB ∧ Cond.code yJ0_coder_7d493 cJ0_coder_7d493 1 (some .byte) ∈ zTB ∧ zDs yJ0_coder_7d493 0 := ⟨zTB_of (zmem1 (List.mem_of_getElem? (i := 154) rfl)) rfl, zTB_of (zmem1 (List.mem_of_getElem? (i := 155) rfl)) rfl, zTB_of (zmem1 (List.mem_of_getElem? (i := 8) rfl)) rfl, zc_J0_coder_7d493, by decide +kernel, by decide +kernel, by decide +kernel⟩
theorem zc_J0_isLatin1_aae02 : Cond.code yJ0_isLatin1_aae02 cJ0_isLatin1_aae02 1 (some .boolean) ∈ zTB := zTB_of (zmem1 (List.mem_of_getElem? (i := 166) rfl)) rfl
theorem zy_J0_isLatin1_aae02 : Cond.instanceMethod yJ0_isLatin1_aae02 ∈ zTB ∧ Cond.selects yJ0_isLatin1_aae02.cls yJ0_isLatin1_aae02 yJ0_isLatin1_aae02 ∈ zTB ∧ Cond.initialized yJ0_isLatin1_aae02.cls ∈ zTB ∧ Cond.code yJ0_isLatin1_aae02 cJ0_isLatin1_aae02 1 (some .boolean) ∈ zTB ∧ zDs yJ0_isLatin1_aae02 0 := ⟨zTB_of (zmem1 (List.mem_of_getElem? (i := 164) rfl)) rfl, zTB_of (zmem1 (List.mem_of_getElem? (i := 165) rfl)) rfl, zTB_of (zmem1 (List.mem_of_getElem? (i := 8) rfl)) rfl, zc_J0_isLatin1_aae02, by decide +kernel, by decide +kernel, by decide +kernel⟩
theorem zc_J0_checkIndex_df160 : Cond.code yJ0_checkIndex_df160 cJ0_checkIndex_df160 2 none ∈ zTB := zTB_of (zmem1 (List.mem_of_getElem? (i := 172) rfl)) rfl
theorem zy_J0_checkIndex_df160 : Cond.static yJ0_checkIndex_df160 ∈ zTB ∧ Cond.initialized yJ0_checkIndex_df160.cls ∈ zTB ∧ Cond.code yJ0_checkIndex_df160 cJ0_checkIndex_df160 2 none ∈ zTB ∧ zDs yJ0_checkIndex_df160 2 := ⟨zTB_of (zmem1 (List.mem_of_getElem? (i := 171) rfl)) rfl, zTB_of (zmem1 (List.mem_of_getElem? (i := 8) rfl)) rfl, zc_J0_checkIndex_df160, by decide +kernel, by decide +kernel, by decide +kernel⟩
theorem zc_J1_charAt_3b067 : Cond.code yJ1_charAt_3b067 cJ1_charAt_3b067 2 (some .char) ∈ zTB := zTB_of (zmem1 (List.mem_of_getElem? (i := 169) rfl)) rfl
theorem zy_J1_charAt_3b067 : Cond.static yJ1_charAt_3b067 ∈ zTB ∧ Cond.initialized yJ1_charAt_3b067.cls ∈ zTB ∧ Cond.code yJ1_charAt_3b067 cJ1_charAt_3b067 2 (some .char) ∈ zTB ∧ zDs yJ1_charAt_3b067 2 := ⟨zTB_of (zmem1 (List.mem_of_getElem? (i := 168) rfl)) rfl, zTB_of (zmem1 (List.mem_of_getElem? (i := 9) rfl)) rfl, zc_J1_charAt_3b067, by decide +kernel, by decide +kernel, by decide +kernel⟩
theorem zc_J2_getChar_3b067 : Cond.code yJ2_getChar_3b067 cJ2_getChar_3b067 2 (some .char) ∈ zTB := zTB_of (zmem1 (List.mem_of_getElem? (i := 190) rfl)) rfl
theorem zy_J2_getChar_3b067 : Cond.static yJ2_getChar_3b067 ∈ zTB ∧ Cond.initialized yJ2_getChar_3b067.cls ∈ zTB ∧ Cond.code yJ2_getChar_3b067 cJ2_getChar_3b067 2 (some .char) ∈ zTB ∧ zDs yJ2_getChar_3b067 2 := ⟨zTB_of (zmem1 (List.mem_of_getElem? (i := 189) rfl)) rfl, zTB_of (zmem1 (List.mem_of_getElem? (i := 11) rfl)) rfl, zc_J2_getChar_3b067, by decide +kernel, by decide +kernel, by decide +kernel⟩
theorem zc_J2_length_9d52b : Cond.code yJ2_length_9d52b cJ2_length_9d52b 1 (some .int) ∈ zTB := zTB_of (zmem1 (List.mem_of_getElem? (i := 186) rfl)) rfl
theorem zy_J2_length_9d52b : Cond.static yJ2_length_9d52b ∈ zTB ∧ Cond.initialized yJ2_length_9d52b.cls ∈ zTB ∧ Cond.code yJ2_length_9d52b cJ2_length_9d52b 1 (some .int) ∈ zTB ∧ zDs yJ2_length_9d52b 1 := ⟨zTB_of (zmem1 (List.mem_of_getElem? (i := 185) rfl)) rfl, zTB_of (zmem1 (List.mem_of_getElem? (i := 11) rfl)) rfl, zc_J2_length_9d52b, by decide +kernel, by decide +kernel, by decide +kernel⟩
theorem zc_J2_charAt_3b067 : Cond.code yJ2_charAt_3b067 cJ2_charAt_3b067 2 (some .char) ∈ zTB := zTB_of (zmem1 (List.mem_of_getElem? (i := 180) rfl)) rfl
theorem zy_J2_charAt_3b067 : Cond.static yJ2_charAt_3b067 ∈ zTB ∧ Cond.initialized yJ2_charAt_3b067.cls ∈ zTB ∧ Cond.code yJ2_charAt_3b067 cJ2_charAt_3b067 2 (some .char) ∈ zTB ∧ zDs yJ2_charAt_3b067 2 := ⟨zTB_of (zmem1 (List.mem_of_getElem? (i := 179) rfl)) rfl, zTB_of (zmem1 (List.mem_of_getElem? (i := 11) rfl)) rfl, zc_J2_charAt_3b067, by decide +kernel, by decide +kernel, by decide +kernel⟩
theorem zc_J2_checkIndex_2214a : Cond.code yJ2_checkIndex_2214a cJ2_checkIndex_2214a 2 none ∈ zTB := zTB_of (zmem1 (List.mem_of_getElem? (i := 183) rfl)) rfl
theorem zy_J2_checkIndex_2214a : Cond.static yJ2_checkIndex_2214a ∈ zTB ∧ Cond.initialized yJ2_checkIndex_2214a.cls ∈ zTB ∧ Cond.code yJ2_checkIndex_2214a cJ2_checkIndex_2214a 2 none ∈ zTB ∧ zDs yJ2_checkIndex_2214a 2 := ⟨zTB_of (zmem1 (List.mem_of_getElem? (i := 182) rfl)) rfl, zTB_of (zmem1 (List.mem_of_getElem? (i := 11) rfl)) rfl, zc_J2_checkIndex_2214a, by decide +kernel, by decide +kernel, by decide +kernel⟩
theorem zc_J3_checkIndex_8e157 : Cond.code yJ3_checkIndex_8e157 cJ3_checkIndex_8e157 3 (some .int) ∈ zTB := zTB_of (zmem1 (List.mem_of_getElem? (i := 177) rfl)) rfl
theorem zy_J3_checkIndex_8e157 : Cond.static yJ3_checkIndex_8e157 ∈ zTB ∧ Cond.initialized yJ3_checkIndex_8e157.cls ∈ zTB ∧ Cond.code yJ3_checkIndex_8e157 cJ3_checkIndex_8e157 3 (some .int) ∈ zTB ∧ zDs yJ3_checkIndex_8e157 3 := ⟨zTB_of (zmem1 (List.mem_of_getElem? (i := 176) rfl)) rfl, zTB_of (zmem1 (List.mem_of_getElem? (i := 10) rfl)) rfl, zc_J3_checkIndex_8e157, by decide +kernel, by decide +kernel, by decide +kernel⟩
theorem ql_L_9 : Cond.methodLink RL 9 yX5_init ∈ zTB := zTB_of (zmem1 (List.mem_of_getElem? (i := 17) rfl)) rfl
theorem fl_X4_9 : Cond.fieldLink RX4 9 RX4 (TX4 0).2.1 (TX4 0).2.2.1 ∈ zTB := zTB_of (zmem1 (List.mem_of_getElem? (i := 29) rfl)) rfl
theorem fl_X4_15 : Cond.fieldLink RX4 15 RX4 (TX4 1).2.1 (TX4 1).2.2.1 ∈ zTB := zTB_of (zmem1 (List.mem_of_getElem? (i := 30) rfl)) rfl
theorem fl_X4_19 : Cond.fieldLink RX4 19 RX4 (TX4 2).2.1 (TX4 2).2.2.1 ∈ zTB := zTB_of (zmem1 (List.mem_of_getElem? (i := 31) rfl)) rfl
theorem fl_X5_79 : Cond.fieldLink RX5 79 RX4 (TX4 2).2.1 (TX4 2).2.2.1 ∈ zTB := zTB_of (zmem1 (List.mem_of_getElem? (i := 32) rfl)) rfl
theorem fl_X3_9 : Cond.fieldLink RX3 9 RX3 (TX3 0).2.1 (TX3 0).2.2.1 ∈ zTB := zTB_of (zmem1 (List.mem_of_getElem? (i := 48) rfl)) rfl
theorem fl_X5_95 : Cond.fieldLink RX5 95 RX3 (TX3 0).2.1 (TX3 0).2.2.1 ∈ zTB := zTB_of (zmem1 (List.mem_of_getElem? (i := 49) rfl)) rfl
theorem fl_X3_15 : Cond.fieldLink RX3 15 RX3 (TX3 1).2.1 (TX3 1).2.2.1 ∈ zTB := zTB_of (zmem1 (List.mem_of_getElem? (i := 50) rfl)) rfl
theorem fl_X5_99 : Cond.fieldLink RX5 99 RX3 (TX3 1).2.1 (TX3 1).2.2.1 ∈ zTB := zTB_of (zmem1 (List.mem_of_getElem? (i := 51) rfl)) rfl
theorem fl_X3_18 : Cond.fieldLink RX3 18 RX3 (TX3 2).2.1 (TX3 2).2.2.1 ∈ zTB := zTB_of (zmem1 (List.mem_of_getElem? (i := 52) rfl)) rfl
theorem fl_X5_102 : Cond.fieldLink RX5 102 RX3 (TX3 2).2.1 (TX3 2).2.2.1 ∈ zTB := zTB_of (zmem1 (List.mem_of_getElem? (i := 53) rfl)) rfl
theorem fl_X3_21 : Cond.fieldLink RX3 21 RX3 (TX3 3).2.1 (TX3 3).2.2.1 ∈ zTB := zTB_of (zmem1 (List.mem_of_getElem? (i := 54) rfl)) rfl
theorem fl_X5_105 : Cond.fieldLink RX5 105 RX3 (TX3 3).2.1 (TX3 3).2.2.1 ∈ zTB := zTB_of (zmem1 (List.mem_of_getElem? (i := 55) rfl)) rfl
theorem fl_X3_24 : Cond.fieldLink RX3 24 RX3 (TX3 4).2.1 (TX3 4).2.2.1 ∈ zTB := zTB_of (zmem1 (List.mem_of_getElem? (i := 56) rfl)) rfl
theorem fl_X2_26 : Cond.fieldLink RX2 26 RX3 (TX3 4).2.1 (TX3 4).2.2.1 ∈ zTB := zTB_of (zmem1 (List.mem_of_getElem? (i := 57) rfl)) rfl
theorem fl_X5_108 : Cond.fieldLink RX5 108 RX3 (TX3 4).2.1 (TX3 4).2.2.1 ∈ zTB := zTB_of (zmem1 (List.mem_of_getElem? (i := 58) rfl)) rfl
theorem fl_X3_27 : Cond.fieldLink RX3 27 RX3 (TX3 5).2.1 (TX3 5).2.2.1 ∈ zTB := zTB_of (zmem1 (List.mem_of_getElem? (i := 59) rfl)) rfl
theorem fl_X1_15 : Cond.fieldLink RX1 15 RX3 (TX3 5).2.1 (TX3 5).2.2.1 ∈ zTB := zTB_of (zmem1 (List.mem_of_getElem? (i := 60) rfl)) rfl
theorem fl_X5_82 : Cond.fieldLink RX5 82 RX3 (TX3 5).2.1 (TX3 5).2.2.1 ∈ zTB := zTB_of (zmem1 (List.mem_of_getElem? (i := 61) rfl)) rfl
theorem fl_X3_31 : Cond.fieldLink RX3 31 RX3 (TX3 6).2.1 (TX3 6).2.2.1 ∈ zTB := zTB_of (zmem1 (List.mem_of_getElem? (i := 62) rfl)) rfl
theorem fl_X1_22 : Cond.fieldLink RX1 22 RX3 (TX3 6).2.1 (TX3 6).2.2.1 ∈ zTB := zTB_of (zmem1 (List.mem_of_getElem? (i := 63) rfl)) rfl
theorem fl_X5_118 : Cond.fieldLink RX5 118 RX3 (TX3 6).2.1 (TX3 6).2.2.1 ∈ zTB := zTB_of (zmem1 (List.mem_of_getElem? (i := 64) rfl)) rfl
theorem fl_X3_34 : Cond.fieldLink RX3 34 RX3 (TX3 7).2.1 (TX3 7).2.2.1 ∈ zTB := zTB_of (zmem1 (List.mem_of_getElem? (i := 65) rfl)) rfl
theorem fl_X5_133 : Cond.fieldLink RX5 133 RX3 (TX3 7).2.1 (TX3 7).2.2.1 ∈ zTB := zTB_of (zmem1 (List.mem_of_getElem? (i := 66) rfl)) rfl
theorem fl_X3_37 : Cond.fieldLink RX3 37 RX3 (TX3 8).2.1 (TX3 8).2.2.1 ∈ zTB := zTB_of (zmem1 (List.mem_of_getElem? (i := 67) rfl)) rfl
theorem fl_X5_124 : Cond.fieldLink RX5 124 RX3 (TX3 8).2.1 (TX3 8).2.2.1 ∈ zTB := zTB_of (zmem1 (List.mem_of_getElem? (i := 68) rfl)) rfl
theorem fl_X3_40 : Cond.fieldLink RX3 40 RX3 (TX3 9).2.1 (TX3 9).2.2.1 ∈ zTB := zTB_of (zmem1 (List.mem_of_getElem? (i := 69) rfl)) rfl
theorem fl_X5_159 : Cond.fieldLink RX5 159 RX3 (TX3 9).2.1 (TX3 9).2.2.1 ∈ zTB := zTB_of (zmem1 (List.mem_of_getElem? (i := 70) rfl)) rfl
theorem fl_X3_43 : Cond.fieldLink RX3 43 RX3 (TX3 10).2.1 (TX3 10).2.2.1 ∈ zTB := zTB_of (zmem1 (List.mem_of_getElem? (i := 71) rfl)) rfl
theorem fl_X1_9 : Cond.fieldLink RX1 9 RX1 (TX1 0).2.1 (TX1 0).2.2.1 ∈ zTB := zTB_of (zmem1 (List.mem_of_getElem? (i := 101) rfl)) rfl
theorem fl_X1_21 : Cond.fieldLink RX1 21 RX1 (TX1 1).2.1 (TX1 1).2.2.1 ∈ zTB := zTB_of (zmem1 (List.mem_of_getElem? (i := 102) rfl)) rfl
theorem fl_X1_25 : Cond.fieldLink RX1 25 RX1 (TX1 2).2.1 (TX1 2).2.2.1 ∈ zTB := zTB_of (zmem1 (List.mem_of_getElem? (i := 103) rfl)) rfl
theorem fl_X2_9 : Cond.fieldLink RX2 9 RX2 (TX2 0).2.1 (TX2 0).2.2.1 ∈ zTB := zTB_of (zmem1 (List.mem_of_getElem? (i := 117) rfl)) rfl
theorem fl_X2_15 : Cond.fieldLink RX2 15 RX2 (TX2 1).2.1 (TX2 1).2.2.1 ∈ zTB := zTB_of (zmem1 (List.mem_of_getElem? (i := 118) rfl)) rfl
theorem fl_X2_18 : Cond.fieldLink RX2 18 RX2 (TX2 2).2.1 (TX2 2).2.2.1 ∈ zTB := zTB_of (zmem1 (List.mem_of_getElem? (i := 119) rfl)) rfl
theorem fl_X5_200 : Cond.fieldLink RX5 200 RX2 (TX2 2).2.1 (TX2 2).2.2.1 ∈ zTB := zTB_of (zmem1 (List.mem_of_getElem? (i := 120) rfl)) rfl
theorem ql_X5_42 : Cond.methodLink RX5 42 yX0_init ∈ zTB := zTB_of (zmem1 (List.mem_of_getElem? (i := 130) rfl)) rfl
theorem qm_X0_7 : zMath_max RX0 7 := ⟨zTB_of (zmem1 (List.mem_of_getElem? (i := 134) rfl)) rfl, zTB_of (zmem1 (List.mem_of_getElem? (i := 135) rfl)) rfl, zTB_of (zmem1 (List.mem_of_getElem? (i := 7) rfl)) rfl, zTB_of (zmem1 (List.mem_of_getElem? (i := 136) rfl)) rfl⟩
theorem fl_X0_15 : Cond.fieldLink RX0 15 RX0 (TX0 0).2.1 (TX0 0).2.2.1 ∈ zTB := zTB_of (zmem1 (List.mem_of_getElem? (i := 140) rfl)) rfl
theorem fl_X0_22 : Cond.fieldLink RX0 22 RX0 (TX0 1).2.1 (TX0 1).2.2.1 ∈ zTB := zTB_of (zmem1 (List.mem_of_getElem? (i := 141) rfl)) rfl
theorem fl_X5_153 : Cond.fieldLink RX5 153 RX0 (TX0 1).2.1 (TX0 1).2.2.1 ∈ zTB := zTB_of (zmem1 (List.mem_of_getElem? (i := 142) rfl)) rfl
theorem q_X5_54 : zQV RX5 54 yJ0_length_8abf5 cJ0_length_8abf5 1 (some .int) 0 := ⟨zTB_of (zmem1 (List.mem_of_getElem? (i := 149) rfl)) rfl, zy_J0_length_8abf5⟩
theorem q_J0_335 : zQV RJ0 335 yJ0_coder_7d493 cJ0_coder_7d493 1 (some .byte) 0 := ⟨zTB_of (zmem1 (List.mem_of_getElem? (i := 153) rfl)) rfl, zy_J0_coder_7d493⟩
theorem q_X5_60 : zQV RX5 60 yJ0_charAt_5068e cJ0_charAt_5068e 2 (some .char) 1 := ⟨zTB_of (zmem1 (List.mem_of_getElem? (i := 159) rfl)) rfl, zy_J0_charAt_5068e⟩
theorem q_J0_492 : zQV RJ0 492 yJ0_isLatin1_aae02 cJ0_isLatin1_aae02 1 (some .boolean) 0 := ⟨zTB_of (zmem1 (List.mem_of_getElem? (i := 163) rfl)) rfl, zy_J0_isLatin1_aae02⟩
theorem q_J0_495 : zQS RJ0 495 yJ1_charAt_3b067 cJ1_charAt_3b067 2 (some .char) 2 := ⟨zTB_of (zmem1 (List.mem_of_getElem? (i := 167) rfl)) rfl, zy_J1_charAt_3b067⟩
theorem q_J1_9 : zQS RJ1 9 yJ0_checkIndex_df160 cJ0_checkIndex_df160 2 none 2 := ⟨zTB_of (zmem1 (List.mem_of_getElem? (i := 170) rfl)) rfl, zy_J0_checkIndex_df160⟩
theorem q_J0_1059 : zQS RJ0 1059 yJ3_checkIndex_8e157 cJ3_checkIndex_8e157 3 (some .int) 3 := ⟨zTB_of (zmem1 (List.mem_of_getElem? (i := 175) rfl)) rfl, zy_J3_checkIndex_8e157⟩
theorem q_J0_498 : zQS RJ0 498 yJ2_charAt_3b067 cJ2_charAt_3b067 2 (some .char) 2 := ⟨zTB_of (zmem1 (List.mem_of_getElem? (i := 178) rfl)) rfl, zy_J2_charAt_3b067⟩
theorem q_J2_67 : zQS RJ2 67 yJ2_checkIndex_2214a cJ2_checkIndex_2214a 2 none 2 := ⟨zTB_of (zmem1 (List.mem_of_getElem? (i := 181) rfl)) rfl, zy_J2_checkIndex_2214a⟩
theorem q_J2_48 : zQS RJ2 48 yJ2_length_9d52b cJ2_length_9d52b 1 (some .int) 1 := ⟨zTB_of (zmem1 (List.mem_of_getElem? (i := 184) rfl)) rfl, zy_J2_length_9d52b⟩
theorem q_J2_414 : zQS RJ2 414 yJ0_checkIndex_df160 cJ0_checkIndex_df160 2 none 2 := ⟨zTB_of (zmem1 (List.mem_of_getElem? (i := 187) rfl)) rfl, zy_J0_checkIndex_df160⟩
theorem q_J2_71 : zQS RJ2 71 yJ2_getChar_3b067 cJ2_getChar_3b067 2 (some .char) 2 := ⟨zTB_of (zmem1 (List.mem_of_getElem? (i := 188) rfl)) rfl, zy_J2_getChar_3b067⟩
theorem q_X5_64 : zQV RX5 64 yX4_append cX4_append 2 (some .boolean) 1 := ⟨zTB_of (zmem1 (List.mem_of_getElem? (i := 197) rfl)) rfl, zy_X4_append⟩
theorem q_X5_68 : zQV RX5 68 yX4_layOut cX4_layOut 5 (some .int) 1 := ⟨zTB_of (zmem1 (List.mem_of_getElem? (i := 201) rfl)) rfl, zy_X4_layOut⟩
theorem q_X4_23 : zQV RX4 23 yX3_clear cX3_clear 1 none 0 := ⟨zTB_of (zmem1 (List.mem_of_getElem? (i := 205) rfl)) rfl, zy_X3_clear⟩
theorem q_X4_28 : zQV RX4 28 yX4_readItem cX4_readItem 7 (some .int) 1 := ⟨zTB_of (zmem1 (List.mem_of_getElem? (i := 209) rfl)) rfl, zy_X4_readItem⟩
theorem q_X4_32 : zQV RX4 32 yX4_at cX4_at 2 (some .char) 1 := ⟨zTB_of (zmem1 (List.mem_of_getElem? (i := 213) rfl)) rfl, zy_X4_at⟩
theorem q_X4_40 : zQS RX4 40 yX4_numbersBehind cX4_numbersBehind 1 (some .int) 1 := ⟨zTB_of (zmem1 (List.mem_of_getElem? (i := 217) rfl)) rfl, zy_X4_numbersBehind⟩
theorem q_X4_44 : zQV RX4 44 yX4_figuresAt cX4_figuresAt 2 (some .int) 1 := ⟨zTB_of (zmem1 (List.mem_of_getElem? (i := 220) rfl)) rfl, zy_X4_figuresAt⟩
theorem q_X4_65 : zQV RX4 65 yX4_isFigure cX4_isFigure 2 (some .boolean) 1 := ⟨zTB_of (zmem1 (List.mem_of_getElem? (i := 224) rfl)) rfl, zy_X4_isFigure⟩
theorem q_X4_47 : zQV RX4 47 yX4_figure cX4_figure 2 (some .int) 1 := ⟨zTB_of (zmem1 (List.mem_of_getElem? (i := 228) rfl)) rfl, zy_X4_figure⟩
theorem q_X4_36 : zQV RX4 36 yX4_isTaken cX4_isTaken 3 (some .boolean) 2 := ⟨zTB_of (zmem1 (List.mem_of_getElem? (i := 232) rfl)) rfl, zy_X4_isTaken⟩
theorem q_X4_50 : zQV RX4 50 yX3_takeMember cX3_takeMember 5 (some .boolean) 4 := ⟨zTB_of (zmem1 (List.mem_of_getElem? (i := 236) rfl)) rfl, zy_X3_takeMember⟩
theorem q_X4_54 : zQV RX4 54 yX3_takePot cX3_takePot 4 (some .boolean) 3 := ⟨zTB_of (zmem2 (List.mem_of_getElem? (i := 3) rfl)) rfl, zy_X3_takePot⟩
theorem q_X4_58 : zQV RX4 58 yX3_takeRounds cX3_takeRounds 2 (some .boolean) 1 := ⟨zTB_of (zmem2 (List.mem_of_getElem? (i := 7) rfl)) rfl, zy_X3_takeRounds⟩
theorem q_X4_62 : zQV RX4 62 yX3_takeFastHunger cX3_takeFastHunger 2 (some .boolean) 1 := ⟨zTB_of (zmem2 (List.mem_of_getElem? (i := 11) rfl)) rfl, zy_X3_takeFastHunger⟩
theorem q_X5_72 : zQV RX5 72 yX4_clear cX4_clear 1 none 0 := ⟨zTB_of (zmem2 (List.mem_of_getElem? (i := 15) rfl)) rfl, zy_X4_clear⟩
theorem fl_X5_10 : Cond.fieldLink RX5 10 RX5 (TX5 0).2.1 (TX5 0).2.2.1 ∈ zTB := zTB_of (zmem2 (List.mem_of_getElem? (i := 19) rfl)) rfl
theorem fl_X5_19 : Cond.fieldLink RX5 19 RX5 (TX5 1).2.1 (TX5 1).2.2.1 ∈ zTB := zTB_of (zmem2 (List.mem_of_getElem? (i := 20) rfl)) rfl
theorem fl_X5_23 : Cond.fieldLink RX5 23 RX5 (TX5 2).2.1 (TX5 2).2.2.1 ∈ zTB := zTB_of (zmem2 (List.mem_of_getElem? (i := 21) rfl)) rfl
theorem fl_X5_29 : Cond.fieldLink RX5 29 RX5 (TX5 3).2.1 (TX5 3).2.2.1 ∈ zTB := zTB_of (zmem2 (List.mem_of_getElem? (i := 22) rfl)) rfl
theorem fl_X5_36 : Cond.fieldLink RX5 36 RX5 (TX5 4).2.1 (TX5 4).2.2.1 ∈ zTB := zTB_of (zmem2 (List.mem_of_getElem? (i := 23) rfl)) rfl
theorem fl_X5_45 : Cond.fieldLink RX5 45 RX5 (TX5 5).2.1 (TX5 5).2.2.1 ∈ zTB := zTB_of (zmem2 (List.mem_of_getElem? (i := 24) rfl)) rfl
theorem fl_X5_49 : Cond.fieldLink RX5 49 RX5 (TX5 6).2.1 (TX5 6).2.2.1 ∈ zTB := zTB_of (zmem2 (List.mem_of_getElem? (i := 25) rfl)) rfl
theorem q_L_13 : zQV RL 13 yX5_write cX5_write 2 (some .int) 1 := ⟨zTB_of (zmem2 (List.mem_of_getElem? (i := 42) rfl)) rfl, zy_X5_write⟩
theorem q_X5_75 : zQS RX5 75 yX5_isOutside cX5_isOutside 3 (some .boolean) 3 := ⟨zTB_of (zmem2 (List.mem_of_getElem? (i := 46) rfl)) rfl, zy_X5_isOutside⟩
theorem q_L_18 : zQV RL 18 yX5_wipe cX5_wipe 2 (some .int) 0 := ⟨zTB_of (zmem2 (List.mem_of_getElem? (i := 47) rfl)) rfl, zy_X5_wipe⟩
theorem q_L_23 : zQV RL 23 yX5_fault cX5_fault 1 (some .int) 0 := ⟨zTB_of (zmem2 (List.mem_of_getElem? (i := 51) rfl)) rfl, zy_X5_fault⟩
theorem q_L_27 : zQV RL 27 yX5_lay cX5_lay 1 (some .int) 0 := ⟨zTB_of (zmem2 (List.mem_of_getElem? (i := 55) rfl)) rfl, zy_X5_lay⟩
theorem q_X5_85 : zQV RX5 85 yX3_takeOver cX3_takeOver 2 none 1 := ⟨zTB_of (zmem2 (List.mem_of_getElem? (i := 59) rfl)) rfl, zy_X3_takeOver⟩
theorem qc_X3_50 : zCopy RX3 50 := ⟨zTB_of (zmem2 (List.mem_of_getElem? (i := 63) rfl)) rfl, zTB_of (zmem2 (List.mem_of_getElem? (i := 65) rfl)) rfl, zTB_of (zmem2 (List.mem_of_getElem? (i := 64) rfl)) rfl, zTB_of (zmem1 (List.mem_of_getElem? (i := 13) rfl)) rfl⟩
theorem q_X5_89 : zQV RX5 89 yX2_clear cX2_clear 1 none 0 := ⟨zTB_of (zmem2 (List.mem_of_getElem? (i := 66) rfl)) rfl, zy_X2_clear⟩
theorem q_X5_90 : zQV RX5 90 yX0_clear cX0_clear 1 none 0 := ⟨zTB_of (zmem2 (List.mem_of_getElem? (i := 70) rfl)) rfl, zy_X0_clear⟩
theorem q_L_31 : zQV RL 31 yX5_member cX5_member 3 (some .int) 2 := ⟨zTB_of (zmem2 (List.mem_of_getElem? (i := 74) rfl)) rfl, zy_X5_member⟩
theorem q_X5_91 : zQV RX5 91 yX5_isNoMember cX5_isNoMember 2 (some .boolean) 1 := ⟨zTB_of (zmem2 (List.mem_of_getElem? (i := 78) rfl)) rfl, zy_X5_isNoMember⟩
theorem q_X5_111 : zQV RX5 111 yX3_share cX3_share 2 (some .int) 1 := ⟨zTB_of (zmem2 (List.mem_of_getElem? (i := 82) rfl)) rfl, zy_X3_share⟩
theorem q_X3_56 : zQV RX3 56 yX3_spoonful cX3_spoonful 3 (some .int) 2 := ⟨zTB_of (zmem2 (List.mem_of_getElem? (i := 86) rfl)) rfl, zy_X3_spoonful⟩
theorem q_X3_65 : zQS RX3 65 yX3_hottestFor cX3_hottestFor 1 (some .int) 1 := ⟨zTB_of (zmem2 (List.mem_of_getElem? (i := 90) rfl)) rfl, zy_X3_hottestFor⟩
theorem qm_X3_60 : zMath_min RX3 60 := ⟨zTB_of (zmem2 (List.mem_of_getElem? (i := 93) rfl)) rfl, zTB_of (zmem2 (List.mem_of_getElem? (i := 94) rfl)) rfl, zTB_of (zmem1 (List.mem_of_getElem? (i := 7) rfl)) rfl, zTB_of (zmem2 (List.mem_of_getElem? (i := 95) rfl)) rfl⟩
theorem q_L_36 : zQV RL 36 yX5_eat cX5_eat 3 (some .int) 1 := ⟨zTB_of (zmem2 (List.mem_of_getElem? (i := 96) rfl)) rfl, zy_X5_eat⟩
theorem q_X5_115 : zQV RX5 115 yX0_put cX0_put 2 none 1 := ⟨zTB_of (zmem2 (List.mem_of_getElem? (i := 100) rfl)) rfl, zy_X0_put⟩
theorem q_X0_26 : zQV RX0 26 yX0_dropLowest cX0_dropLowest 3 none 0 := ⟨zTB_of (zmem2 (List.mem_of_getElem? (i := 104) rfl)) rfl, zy_X0_dropLowest⟩
theorem q_X0_29 : zQV RX0 29 yX3_takeOver cX3_takeOver 2 none 1 := ⟨zTB_of (zmem2 (List.mem_of_getElem? (i := 108) rfl)) rfl, zy_X3_takeOver⟩
theorem q_X5_121 : zQV RX5 121 yX3_eatRounds cX3_eatRounds 5 (some .int) 1 := ⟨zTB_of (zmem2 (List.mem_of_getElem? (i := 109) rfl)) rfl, zy_X3_eatRounds⟩
theorem q_X3_75 : zQV RX3 75 yX3_eatRound cX3_eatRound 4 (some .int) 0 := ⟨zTB_of (zmem2 (List.mem_of_getElem? (i := 113) rfl)) rfl, zy_X3_eatRound⟩
theorem q_X3_69 : zQV RX3 69 yX3_share cX3_share 2 (some .int) 1 := ⟨zTB_of (zmem2 (List.mem_of_getElem? (i := 117) rfl)) rfl, zy_X3_share⟩
theorem q_X3_72 : zQV RX3 72 yX3_waitOnce cX3_waitOnce 1 none 0 := ⟨zTB_of (zmem2 (List.mem_of_getElem? (i := 118) rfl)) rfl, zy_X3_waitOnce⟩
theorem qm_X3_85 : zMath_max RX3 85 := ⟨zTB_of (zmem2 (List.mem_of_getElem? (i := 122) rfl)) rfl, zTB_of (zmem1 (List.mem_of_getElem? (i := 135) rfl)) rfl, zTB_of (zmem1 (List.mem_of_getElem? (i := 7) rfl)) rfl, zTB_of (zmem1 (List.mem_of_getElem? (i := 136) rfl)) rfl⟩
theorem q_L_40 : zQV RL 40 yX5_salt cX5_salt 1 (some .int) 0 := ⟨zTB_of (zmem2 (List.mem_of_getElem? (i := 123) rfl)) rfl, zy_X5_salt⟩
theorem q_X5_127 : zQV RX5 127 yX3_putSalt cX3_putSalt 1 none 0 := ⟨zTB_of (zmem2 (List.mem_of_getElem? (i := 127) rfl)) rfl, zy_X3_putSalt⟩
theorem q_L_44 : zQV RL 44 yX5_cook cX5_cook 2 (some .int) 1 := ⟨zTB_of (zmem2 (List.mem_of_getElem? (i := 131) rfl)) rfl, zy_X5_cook⟩
theorem q_X5_130 : zQV RX5 130 yX3_cookTo cX3_cookTo 2 none 1 := ⟨zTB_of (zmem2 (List.mem_of_getElem? (i := 135) rfl)) rfl, zy_X3_cookTo⟩
theorem q_L_48 : zQV RL 48 yX5_cool cX5_cool 1 (some .int) 0 := ⟨zTB_of (zmem2 (List.mem_of_getElem? (i := 139) rfl)) rfl, zy_X5_cool⟩
theorem q_X5_136 : zQV RX5 136 yX3_waitOnce cX3_waitOnce 1 none 0 := ⟨zTB_of (zmem2 (List.mem_of_getElem? (i := 143) rfl)) rfl, zy_X3_waitOnce⟩
theorem q_L_52 : zQV RL 52 yX5_trade cX5_trade 3 (some .int) 2 := ⟨zTB_of (zmem2 (List.mem_of_getElem? (i := 144) rfl)) rfl, zy_X5_trade⟩
theorem q_X5_139 : zQV RX5 139 yX3_exchangeSpoons cX3_exchangeSpoons 5 none 2 := ⟨zTB_of (zmem2 (List.mem_of_getElem? (i := 148) rfl)) rfl, zy_X3_exchangeSpoons⟩
theorem q_L_56 : zQV RL 56 yX5_fast cX5_fast 1 (some .int) 0 := ⟨zTB_of (zmem2 (List.mem_of_getElem? (i := 152) rfl)) rfl, zy_X5_fast⟩
theorem q_X5_143 : zQV RX5 143 yX3_fastDay cX3_fastDay 2 none 0 := ⟨zTB_of (zmem2 (List.mem_of_getElem? (i := 156) rfl)) rfl, zy_X3_fastDay⟩
theorem q_X5_146 : zQV RX5 146 yX3_hungerOfAll cX3_hungerOfAll 1 (some .int) 0 := ⟨zTB_of (zmem2 (List.mem_of_getElem? (i := 160) rfl)) rfl, zy_X3_hungerOfAll⟩
theorem q_X3_98 : zQV RX3 98 yX3_sum cX3_sum 4 (some .int) 1 := ⟨zTB_of (zmem2 (List.mem_of_getElem? (i := 164) rfl)) rfl, zy_X3_sum⟩
theorem q_L_60 : zQV RL 60 yX5_undo cX5_undo 1 (some .int) 0 := ⟨zTB_of (zmem2 (List.mem_of_getElem? (i := 168) rfl)) rfl, zy_X5_undo⟩
theorem q_X5_149 : zQV RX5 149 yX0_takeLast cX0_takeLast 2 (some .boolean) 1 := ⟨zTB_of (zmem2 (List.mem_of_getElem? (i := 172) rfl)) rfl, zy_X0_takeLast⟩
theorem q_L_64 : zQV RL 64 yX5_passes cX5_passes 1 (some .int) 0 := ⟨zTB_of (zmem2 (List.mem_of_getElem? (i := 177) rfl)) rfl, zy_X5_passes⟩
theorem q_X5_156 : zQV RX5 156 yX3_roundsUntilEmpty cX3_roundsUntilEmpty 2 (some .int) 0 := ⟨zTB_of (zmem2 (List.mem_of_getElem? (i := 181) rfl)) rfl, zy_X3_roundsUntilEmpty⟩
theorem q_L_68 : zQV RL 68 yX5_left cX5_left 2 (some .int) 1 := ⟨zTB_of (zmem2 (List.mem_of_getElem? (i := 185) rfl)) rfl, zy_X5_left⟩
theorem q_L_72 : zQV RL 72 yX5_scraper cX5_scraper 1 (some .int) 0 := ⟨zTB_of (zmem2 (List.mem_of_getElem? (i := 189) rfl)) rfl, zy_X5_scraper⟩
theorem q_L_76 : zQV RL 76 yX5_spoil cX5_spoil 2 (some .int) 0 := ⟨zTB_of (zmem2 (List.mem_of_getElem? (i := 193) rfl)) rfl, zy_X5_spoil⟩
theorem q_X5_162 : zQV RX5 162 yX3_wouldPass cX3_wouldPass 1 (some .boolean) 0 := ⟨zTB_of (zmem2 (List.mem_of_getElem? (i := 197) rfl)) rfl, zy_X3_wouldPass⟩
theorem q_X3_82 : zQV RX3 82 yX3_reachOfAll cX3_reachOfAll 3 (some .int) 0 := ⟨zTB_of (zmem2 (List.mem_of_getElem? (i := 201) rfl)) rfl, zy_X3_reachOfAll⟩
theorem q_X3_79 : zQV RX3 79 yX3_reach cX3_reach 4 (some .int) 1 := ⟨zTB_of (zmem2 (List.mem_of_getElem? (i := 205) rfl)) rfl, zy_X3_reach⟩
theorem q_L_80 : zQV RL 80 yX5_waits cX5_waits 2 (some .int) 0 := ⟨zTB_of (zmem2 (List.mem_of_getElem? (i := 209) rfl)) rfl, zy_X5_waits⟩
theorem q_L_84 : zQV RL 84 yX5_most cX5_most 1 (some .int) 0 := ⟨zTB_of (zmem2 (List.mem_of_getElem? (i := 213) rfl)) rfl, zy_X5_most⟩
theorem q_X5_166 : zQV RX5 166 yX3_reachOfAll cX3_reachOfAll 3 (some .int) 0 := ⟨zTB_of (zmem2 (List.mem_of_getElem? (i := 217) rfl)) rfl, zy_X3_reachOfAll⟩
theorem qm_X5_169 : zMath_min RX5 169 := ⟨zTB_of (zmem2 (List.mem_of_getElem? (i := 218) rfl)) rfl, zTB_of (zmem2 (List.mem_of_getElem? (i := 94) rfl)) rfl, zTB_of (zmem1 (List.mem_of_getElem? (i := 7) rfl)) rfl, zTB_of (zmem2 (List.mem_of_getElem? (i := 95) rfl)) rfl⟩
theorem q_L_88 : zQV RL 88 yX5_fasts cX5_fasts 2 (some .int) 0 := ⟨zTB_of (zmem2 (List.mem_of_getElem? (i := 219) rfl)) rfl, zy_X5_fasts⟩
theorem q_L_92 : zQV RL 92 yX5_cabal cX5_cabal 3 (some .int) 1 := ⟨zTB_of (zmem2 (List.mem_of_getElem? (i := 223) rfl)) rfl, zy_X5_cabal⟩
theorem q_X5_175 : zQV RX5 175 yX1_measure cX1_measure 3 none 1 := ⟨zTB_of (zmem2 (List.mem_of_getElem? (i := 227) rfl)) rfl, zy_X1_measure⟩
theorem q_X1_26 : zQV RX1 26 yX3_reach cX3_reach 4 (some .int) 1 := ⟨zTB_of (zmem2 (List.mem_of_getElem? (i := 231) rfl)) rfl, zy_X3_reach⟩
theorem q_X5_178 : zQV RX5 178 yX1_fewest cX1_fewest 3 (some .int) 0 := ⟨zTB_of (zmem2 (List.mem_of_getElem? (i := 232) rfl)) rfl, zy_X1_fewest⟩
theorem q_X1_33 : zQV RX1 33 yX1_howMany cX1_howMany 1 (some .int) 0 := ⟨zTB_of (zmem2 (List.mem_of_getElem? (i := 236) rfl)) rfl, zy_X1_howMany⟩
theorem q_X1_37 : zQV RX1 37 yX1_letsPass cX1_letsPass 4 (some .boolean) 1 := ⟨zTB_of (zmem3 (List.mem_of_getElem? (i := 0) rfl)) rfl, zy_X1_letsPass⟩
theorem q_X1_29 : zQS RX1 29 yX1_isIn cX1_isIn 2 (some .boolean) 2 := ⟨zTB_of (zmem3 (List.mem_of_getElem? (i := 4) rfl)) rfl, zy_X1_isIn⟩
theorem q_X1_41 : zQS RX1 41 yJ6_bitCount_0f7a4 cJ6_bitCount_0f7a4 1 (some .int) 1 := ⟨zTB_of (zmem3 (List.mem_of_getElem? (i := 7) rfl)) rfl, zy_J6_bitCount_0f7a4⟩
theorem q_X5_181 : zQS RX5 181 yJ6_bitCount_0f7a4 cJ6_bitCount_0f7a4 1 (some .int) 1 := ⟨zTB_of (zmem3 (List.mem_of_getElem? (i := 13) rfl)) rfl, zy_J6_bitCount_0f7a4⟩
theorem q_L_96 : zQV RL 96 yX5_trades cX5_trades 3 (some .int) 0 := ⟨zTB_of (zmem3 (List.mem_of_getElem? (i := 14) rfl)) rfl, zy_X5_trades⟩
theorem q_L_100 : zQV RL 100 yX5_power cX5_power 3 (some .int) 2 := ⟨zTB_of (zmem3 (List.mem_of_getElem? (i := 18) rfl)) rfl, zy_X5_power⟩
theorem q_X5_186 : zQV RX5 186 yX1_ordersDecidedBy cX1_ordersDecidedBy 5 (some .int) 1 := ⟨zTB_of (zmem3 (List.mem_of_getElem? (i := 22) rfl)) rfl, zy_X1_ordersDecidedBy⟩
theorem q_X1_46 : zQS RX1 46 yX1_factorial cX1_factorial 3 (some .int) 1 := ⟨zTB_of (zmem3 (List.mem_of_getElem? (i := 26) rfl)) rfl, zy_X1_factorial⟩
theorem q_X5_189 : zQV RX5 189 yX1_orders cX1_orders 1 (some .int) 0 := ⟨zTB_of (zmem3 (List.mem_of_getElem? (i := 29) rfl)) rfl, zy_X1_orders⟩
theorem q_X5_192 : zQS RX5 192 yX5_inLowestTerms cX5_inLowestTerms 4 (some .int) 3 := ⟨zTB_of (zmem3 (List.mem_of_getElem? (i := 33) rfl)) rfl, zy_X5_inLowestTerms⟩
theorem q_X5_231 : zQS RX5 231 yX5_commonDivisor cX5_commonDivisor 6 (some .int) 2 := ⟨zTB_of (zmem3 (List.mem_of_getElem? (i := 36) rfl)) rfl, zy_X5_commonDivisor⟩
theorem q_L_104 : zQV RL 104 yX5_seen cX5_seen 3 (some .int) 2 := ⟨zTB_of (zmem3 (List.mem_of_getElem? (i := 39) rfl)) rfl, zy_X5_seen⟩
theorem q_X5_196 : zQV RX5 196 yX2_add cX2_add 3 (some .boolean) 2 := ⟨zTB_of (zmem3 (List.mem_of_getElem? (i := 43) rfl)) rfl, zy_X2_add⟩
theorem q_L_108 : zQV RL 108 yX5_forget cX5_forget 2 (some .int) 0 := ⟨zTB_of (zmem3 (List.mem_of_getElem? (i := 48) rfl)) rfl, zy_X5_forget⟩
theorem q_L_112 : zQV RL 112 yX5_may cX5_may 4 (some .int) 1 := ⟨zTB_of (zmem3 (List.mem_of_getElem? (i := 52) rfl)) rfl, zy_X5_may⟩
theorem q_X5_201 : zQV RX5 201 yX3_eatRound cX3_eatRound 4 (some .int) 0 := ⟨zTB_of (zmem3 (List.mem_of_getElem? (i := 56) rfl)) rfl, zy_X3_eatRound⟩
theorem q_X5_204 : zQV RX5 204 yX2_allSoBetween cX2_allSoBetween 5 (some .boolean) 2 := ⟨zTB_of (zmem3 (List.mem_of_getElem? (i := 57) rfl)) rfl, zy_X2_allSoBetween⟩
theorem q_L_116 : zQV RL 116 yX5_likely cX5_likely 3 (some .int) 2 := ⟨zTB_of (zmem3 (List.mem_of_getElem? (i := 61) rfl)) rfl, zy_X5_likely⟩
theorem q_X5_208 : zQV RX5 208 yX1_passingCasesBy cX1_passingCasesBy 4 (some .int) 1 := ⟨zTB_of (zmem3 (List.mem_of_getElem? (i := 65) rfl)) rfl, zy_X1_passingCasesBy⟩
theorem q_X1_49 : zQV RX1 49 yX1_casesOf cX1_casesOf 5 (some .int) 2 := ⟨zTB_of (zmem3 (List.mem_of_getElem? (i := 69) rfl)) rfl, zy_X1_casesOf⟩
theorem q_X5_211 : zQV RX5 211 yX1_cases cX1_cases 3 (some .int) 0 := ⟨zTB_of (zmem3 (List.mem_of_getElem? (i := 73) rfl)) rfl, zy_X1_cases⟩
theorem q_L_120 : zQV RL 120 yX5_century cX5_century 5 (some .int) 3 := ⟨zTB_of (zmem3 (List.mem_of_getElem? (i := 77) rfl)) rfl, zy_X5_century⟩
theorem q_X5_214 : zQS RX5 214 yX5_draw cX5_draw 4 (some .int) 2 := ⟨zTB_of (zmem3 (List.mem_of_getElem? (i := 81) rfl)) rfl, zy_X5_draw⟩
theorem q_X5_217 : zQV RX5 217 yX3_liveBy cX3_liveBy 3 none 1 := ⟨zTB_of (zmem3 (List.mem_of_getElem? (i := 88) rfl)) rfl, zy_X3_liveBy⟩
theorem q_X3_88 : zQV RX3 88 yX3_cookTo cX3_cookTo 2 none 1 := ⟨zTB_of (zmem3 (List.mem_of_getElem? (i := 92) rfl)) rfl, zy_X3_cookTo⟩
theorem q_X3_92 : zQV RX3 92 yX3_putSalt cX3_putSalt 1 none 0 := ⟨zTB_of (zmem3 (List.mem_of_getElem? (i := 93) rfl)) rfl, zy_X3_putSalt⟩
theorem q_X3_95 : zQV RX3 95 yX3_fastDay cX3_fastDay 2 none 0 := ⟨zTB_of (zmem3 (List.mem_of_getElem? (i := 94) rfl)) rfl, zy_X3_fastDay⟩
theorem q_X5_220 : zQV RX5 220 yX3_eatenInAll cX3_eatenInAll 1 (some .int) 0 := ⟨zTB_of (zmem3 (List.mem_of_getElem? (i := 95) rfl)) rfl, zy_X3_eatenInAll⟩
theorem q_L_125 : zQV RL 125 yX5_keep cX5_keep 1 (some .int) 0 := ⟨zTB_of (zmem3 (List.mem_of_getElem? (i := 99) rfl)) rfl, zy_X5_keep⟩
theorem q_L_129 : zQV RL 129 yX5_back cX5_back 1 (some .int) 0 := ⟨zTB_of (zmem3 (List.mem_of_getElem? (i := 103) rfl)) rfl, zy_X5_back⟩
theorem q_L_133 : zQV RL 133 yX5_count cX5_count 2 (some .int) 1 := ⟨zTB_of (zmem3 (List.mem_of_getElem? (i := 107) rfl)) rfl, zy_X5_count⟩
theorem ql_L_12 : Cond.methodLink RL 12 yX6_init ∈ zTB := zTB_of (zmem3 (List.mem_of_getElem? (i := 113) rfl)) rfl
theorem q_X6_40 : zQV RX6 40 yX6_begins cX6_begins 2 none 0 := ⟨zTB_of (zmem3 (List.mem_of_getElem? (i := 117) rfl)) rfl, zy_X6_begins⟩
theorem q_X6_43 : zQV RX6 43 yX6_memberOf cX6_memberOf 6 none 4 := ⟨zTB_of (zmem3 (List.mem_of_getElem? (i := 121) rfl)) rfl, zy_X6_memberOf⟩
theorem q_X6_47 : zQV RX6 47 yX6_lays cX6_lays 2 none 0 := ⟨zTB_of (zmem3 (List.mem_of_getElem? (i := 125) rfl)) rfl, zy_X6_lays⟩
theorem fl_X6_7 : Cond.fieldLink RX6 7 RX6 (TX6 0).2.1 (TX6 0).2.2.1 ∈ zTB := zTB_of (zmem3 (List.mem_of_getElem? (i := 129) rfl)) rfl
theorem fl_X6_54 : Cond.fieldLink RX6 54 RX6 (TX6 1).2.1 (TX6 1).2.2.1 ∈ zTB := zTB_of (zmem3 (List.mem_of_getElem? (i := 130) rfl)) rfl
theorem fl_X6_13 : Cond.fieldLink RX6 13 RX6 (TX6 2).2.1 (TX6 2).2.2.1 ∈ zTB := zTB_of (zmem3 (List.mem_of_getElem? (i := 131) rfl)) rfl
theorem fl_X6_16 : Cond.fieldLink RX6 16 RX6 (TX6 3).2.1 (TX6 3).2.2.1 ∈ zTB := zTB_of (zmem3 (List.mem_of_getElem? (i := 132) rfl)) rfl
theorem fl_X6_19 : Cond.fieldLink RX6 19 RX6 (TX6 4).2.1 (TX6 4).2.2.1 ∈ zTB := zTB_of (zmem3 (List.mem_of_getElem? (i := 133) rfl)) rfl
theorem fl_X6_22 : Cond.fieldLink RX6 22 RX6 (TX6 5).2.1 (TX6 5).2.2.1 ∈ zTB := zTB_of (zmem3 (List.mem_of_getElem? (i := 134) rfl)) rfl
theorem fl_X6_25 : Cond.fieldLink RX6 25 RX6 (TX6 6).2.1 (TX6 6).2.2.1 ∈ zTB := zTB_of (zmem3 (List.mem_of_getElem? (i := 135) rfl)) rfl
theorem fl_X6_80 : Cond.fieldLink RX6 80 RX6 (TX6 7).2.1 (TX6 7).2.2.1 ∈ zTB := zTB_of (zmem3 (List.mem_of_getElem? (i := 136) rfl)) rfl
theorem fl_X6_28 : Cond.fieldLink RX6 28 RX6 (TX6 8).2.1 (TX6 8).2.2.1 ∈ zTB := zTB_of (zmem3 (List.mem_of_getElem? (i := 137) rfl)) rfl
theorem fl_X6_83 : Cond.fieldLink RX6 83 RX6 (TX6 9).2.1 (TX6 9).2.2.1 ∈ zTB := zTB_of (zmem3 (List.mem_of_getElem? (i := 138) rfl)) rfl
theorem fl_X6_31 : Cond.fieldLink RX6 31 RX6 (TX6 10).2.1 (TX6 10).2.2.1 ∈ zTB := zTB_of (zmem3 (List.mem_of_getElem? (i := 139) rfl)) rfl
theorem fl_X6_86 : Cond.fieldLink RX6 86 RX6 (TX6 11).2.1 (TX6 11).2.2.1 ∈ zTB := zTB_of (zmem3 (List.mem_of_getElem? (i := 140) rfl)) rfl
theorem fl_X6_58 : Cond.fieldLink RX6 58 RX6 (TX6 12).2.1 (TX6 12).2.2.1 ∈ zTB := zTB_of (zmem3 (List.mem_of_getElem? (i := 141) rfl)) rfl
theorem fl_X6_95 : Cond.fieldLink RX6 95 RX6 (TX6 13).2.1 (TX6 13).2.2.1 ∈ zTB := zTB_of (zmem3 (List.mem_of_getElem? (i := 142) rfl)) rfl
theorem fl_X6_34 : Cond.fieldLink RX6 34 RX6 (TX6 14).2.1 (TX6 14).2.2.1 ∈ zTB := zTB_of (zmem3 (List.mem_of_getElem? (i := 143) rfl)) rfl
theorem fl_X6_37 : Cond.fieldLink RX6 37 RX6 (TX6 15).2.1 (TX6 15).2.2.1 ∈ zTB := zTB_of (zmem3 (List.mem_of_getElem? (i := 144) rfl)) rfl
theorem q_L_17 : zQV RL 17 yX6_write cX6_write 2 (some .int) 1 := ⟨zTB_of (zmem3 (List.mem_of_getElem? (i := 178) rfl)) rfl, zy_X6_write⟩
theorem q_X6_50 : zQS RX6 50 yX6_in cX6_in 3 (some .boolean) 3 := ⟨zTB_of (zmem3 (List.mem_of_getElem? (i := 182) rfl)) rfl, zy_X6_in⟩
theorem q_L_22 : zQV RL 22 yX6_wipe cX6_wipe 2 (some .int) 0 := ⟨zTB_of (zmem3 (List.mem_of_getElem? (i := 185) rfl)) rfl, zy_X6_wipe⟩
theorem q_L_26 : zQV RL 26 yX6_fault cX6_fault 1 (some .int) 0 := ⟨zTB_of (zmem3 (List.mem_of_getElem? (i := 189) rfl)) rfl, zy_X6_fault⟩
theorem q_X6_76 : zQV RX6 76 yX6_readsAll cX6_readsAll 2 (some .int) 0 := ⟨zTB_of (zmem3 (List.mem_of_getElem? (i := 193) rfl)) rfl, zy_X6_readsAll⟩
theorem q_X6_73 : zQV RX6 73 yX6_readsItem cX6_readsItem 6 (some .boolean) 1 := ⟨zTB_of (zmem3 (List.mem_of_getElem? (i := 197) rfl)) rfl, zy_X6_readsItem⟩
theorem q_X6_69 : zQV RX6 69 yX6_number cX6_number 6 (some .int) 3 := ⟨zTB_of (zmem3 (List.mem_of_getElem? (i := 201) rfl)) rfl, zy_X6_number⟩
theorem q_X6_61 : zQV RX6 61 yX6_letterAt cX6_letterAt 2 (some .int) 1 := ⟨zTB_of (zmem3 (List.mem_of_getElem? (i := 205) rfl)) rfl, zy_X6_letterAt⟩
theorem q_X6_65 : zQS RX6 65 yX6_isFigure cX6_isFigure 1 (some .boolean) 1 := ⟨zTB_of (zmem3 (List.mem_of_getElem? (i := 209) rfl)) rfl, zy_X6_isFigure⟩
theorem q_L_30 : zQV RL 30 yX6_lay cX6_lay 1 (some .int) 0 := ⟨zTB_of (zmem3 (List.mem_of_getElem? (i := 212) rfl)) rfl, zy_X6_lay⟩
theorem q_L_35 : zQV RL 35 yX6_member cX6_member 3 (some .int) 2 := ⟨zTB_of (zmem3 (List.mem_of_getElem? (i := 216) rfl)) rfl, zy_X6_member⟩
theorem q_X6_89 : zQV RX6 89 yX6_isMember cX6_isMember 2 (some .boolean) 1 := ⟨zTB_of (zmem3 (List.mem_of_getElem? (i := 220) rfl)) rfl, zy_X6_isMember⟩
theorem q_X6_92 : zQV RX6 92 yX6_wouldEat cX6_wouldEat 7 (some .int) 1 := ⟨zTB_of (zmem3 (List.mem_of_getElem? (i := 224) rfl)) rfl, zy_X6_wouldEat⟩
theorem q_L_39 : zQV RL 39 yX6_eat cX6_eat 4 (some .int) 1 := ⟨zTB_of (zmem3 (List.mem_of_getElem? (i := 228) rfl)) rfl, zy_X6_eat⟩
theorem q_X6_101 : zQV RX6 101 yX6_keeps cX6_keeps 2 none 0 := ⟨zTB_of (zmem3 (List.mem_of_getElem? (i := 232) rfl)) rfl, zy_X6_keeps⟩
theorem q_X6_104 : zQV RX6 104 yX6_all cX6_all 1 (some .int) 0 := ⟨zTB_of (zmem3 (List.mem_of_getElem? (i := 236) rfl)) rfl, zy_X6_all⟩
theorem q_X6_107 : zQV RX6 107 yX6_eats cX6_eats 5 (some .int) 1 := ⟨zTB_of (zmem4 (List.mem_of_getElem? (i := 0) rfl)) rfl, zy_X6_eats⟩
theorem q_X6_98 : zQV RX6 98 yX6_cools cX6_cools 1 none 0 := ⟨zTB_of (zmem4 (List.mem_of_getElem? (i := 4) rfl)) rfl, zy_X6_cools⟩
theorem q_L_43 : zQV RL 43 yX6_salt cX6_salt 1 (some .int) 0 := ⟨zTB_of (zmem4 (List.mem_of_getElem? (i := 8) rfl)) rfl, zy_X6_salt⟩
theorem q_L_47 : zQV RL 47 yX6_cook cX6_cook 2 (some .int) 1 := ⟨zTB_of (zmem4 (List.mem_of_getElem? (i := 12) rfl)) rfl, zy_X6_cook⟩
theorem q_X6_110 : zQV RX6 110 yX6_cooks cX6_cooks 2 none 1 := ⟨zTB_of (zmem4 (List.mem_of_getElem? (i := 16) rfl)) rfl, zy_X6_cooks⟩
theorem q_L_51 : zQV RL 51 yX6_cool cX6_cool 1 (some .int) 0 := ⟨zTB_of (zmem4 (List.mem_of_getElem? (i := 20) rfl)) rfl, zy_X6_cool⟩
theorem q_L_55 : zQV RL 55 yX6_trade cX6_trade 3 (some .int) 2 := ⟨zTB_of (zmem4 (List.mem_of_getElem? (i := 24) rfl)) rfl, zy_X6_trade⟩
theorem q_X6_114 : zQV RX6 114 yX6_swaps cX6_swaps 5 none 2 := ⟨zTB_of (zmem4 (List.mem_of_getElem? (i := 28) rfl)) rfl, zy_X6_swaps⟩
theorem q_L_59 : zQV RL 59 yX6_fast cX6_fast 1 (some .int) 0 := ⟨zTB_of (zmem4 (List.mem_of_getElem? (i := 32) rfl)) rfl, zy_X6_fast⟩
theorem q_X6_118 : zQV RX6 118 yX6_starves cX6_starves 3 none 0 := ⟨zTB_of (zmem4 (List.mem_of_getElem? (i := 36) rfl)) rfl, zy_X6_starves⟩
theorem q_X6_121 : zQV RX6 121 yX6_sumOf cX6_sumOf 4 (some .int) 1 := ⟨zTB_of (zmem4 (List.mem_of_getElem? (i := 40) rfl)) rfl, zy_X6_sumOf⟩
theorem q_L_63 : zQV RL 63 yX6_undo cX6_undo 2 (some .int) 0 := ⟨zTB_of (zmem4 (List.mem_of_getElem? (i := 44) rfl)) rfl, zy_X6_undo⟩
theorem q_L_67 : zQV RL 67 yX6_passes cX6_passes 1 (some .int) 0 := ⟨zTB_of (zmem4 (List.mem_of_getElem? (i := 48) rfl)) rfl, zy_X6_passes⟩
theorem q_X6_124 : zQV RX6 124 yX6_passesBy cX6_passesBy 5 (some .int) 1 := ⟨zTB_of (zmem4 (List.mem_of_getElem? (i := 52) rfl)) rfl, zy_X6_passesBy⟩
theorem q_L_71 : zQV RL 71 yX6_left cX6_left 3 (some .int) 1 := ⟨zTB_of (zmem4 (List.mem_of_getElem? (i := 56) rfl)) rfl, zy_X6_left⟩
theorem q_X6_127 : zQV RX6 127 yX6_holds cX6_holds 2 none 0 := ⟨zTB_of (zmem4 (List.mem_of_getElem? (i := 60) rfl)) rfl, zy_X6_holds⟩
theorem q_X6_130 : zQV RX6 130 yX6_lets cX6_lets 2 none 0 := ⟨zTB_of (zmem4 (List.mem_of_getElem? (i := 64) rfl)) rfl, zy_X6_lets⟩
theorem q_L_75 : zQV RL 75 yX6_scraper cX6_scraper 1 (some .int) 0 := ⟨zTB_of (zmem4 (List.mem_of_getElem? (i := 68) rfl)) rfl, zy_X6_scraper⟩
theorem q_X6_133 : zQV RX6 133 yX6_isPassed cX6_isPassed 2 (some .boolean) 1 := ⟨zTB_of (zmem4 (List.mem_of_getElem? (i := 72) rfl)) rfl, zy_X6_isPassed⟩
theorem q_L_79 : zQV RL 79 yX6_spoil cX6_spoil 4 (some .int) 0 := ⟨zTB_of (zmem4 (List.mem_of_getElem? (i := 76) rfl)) rfl, zy_X6_spoil⟩
theorem q_L_83 : zQV RL 83 yX6_waits cX6_waits 4 (some .int) 0 := ⟨zTB_of (zmem4 (List.mem_of_getElem? (i := 80) rfl)) rfl, zy_X6_waits⟩
theorem q_L_87 : zQV RL 87 yX6_most cX6_most 4 (some .int) 0 := ⟨zTB_of (zmem4 (List.mem_of_getElem? (i := 84) rfl)) rfl, zy_X6_most⟩
theorem q_L_91 : zQV RL 91 yX6_fasts cX6_fasts 3 (some .int) 0 := ⟨zTB_of (zmem4 (List.mem_of_getElem? (i := 88) rfl)) rfl, zy_X6_fasts⟩
theorem q_L_95 : zQV RL 95 yX6_cabal cX6_cabal 4 (some .int) 1 := ⟨zTB_of (zmem4 (List.mem_of_getElem? (i := 92) rfl)) rfl, zy_X6_cabal⟩
theorem q_X6_136 : zQS RX6 136 yX6_ones cX6_ones 3 (some .int) 1 := ⟨zTB_of (zmem4 (List.mem_of_getElem? (i := 96) rfl)) rfl, zy_X6_ones⟩
theorem q_L_99 : zQV RL 99 yX6_trades cX6_trades 4 (some .int) 0 := ⟨zTB_of (zmem4 (List.mem_of_getElem? (i := 99) rfl)) rfl, zy_X6_trades⟩
theorem q_L_103 : zQV RL 103 yX6_power cX6_power 5 (some .int) 2 := ⟨zTB_of (zmem4 (List.mem_of_getElem? (i := 103) rfl)) rfl, zy_X6_power⟩
theorem q_X6_139 : zQS RX6 139 yX6_orders cX6_orders 3 (some .int) 1 := ⟨zTB_of (zmem4 (List.mem_of_getElem? (i := 107) rfl)) rfl, zy_X6_orders⟩
theorem q_X6_142 : zQS RX6 142 yX6_partOf cX6_partOf 6 (some .int) 3 := ⟨zTB_of (zmem4 (List.mem_of_getElem? (i := 110) rfl)) rfl, zy_X6_partOf⟩
theorem q_L_107 : zQV RL 107 yX6_seen cX6_seen 3 (some .int) 2 := ⟨zTB_of (zmem4 (List.mem_of_getElem? (i := 113) rfl)) rfl, zy_X6_seen⟩
theorem q_L_111 : zQV RL 111 yX6_forget cX6_forget 2 (some .int) 0 := ⟨zTB_of (zmem4 (List.mem_of_getElem? (i := 117) rfl)) rfl, zy_X6_forget⟩
theorem q_L_115 : zQV RL 115 yX6_may cX6_may 7 (some .int) 1 := ⟨zTB_of (zmem4 (List.mem_of_getElem? (i := 121) rfl)) rfl, zy_X6_may⟩
theorem q_L_119 : zQV RL 119 yX6_likely cX6_likely 8 (some .int) 2 := ⟨zTB_of (zmem4 (List.mem_of_getElem? (i := 125) rfl)) rfl, zy_X6_likely⟩
theorem q_L_124 : zQV RL 124 yX6_century cX6_century 7 (some .int) 3 := ⟨zTB_of (zmem4 (List.mem_of_getElem? (i := 129) rfl)) rfl, zy_X6_century⟩
theorem q_X6_151 : zQV RX6 151 yX6_turn cX6_turn 3 none 1 := ⟨zTB_of (zmem4 (List.mem_of_getElem? (i := 136) rfl)) rfl, zy_X6_turn⟩
theorem q_L_128 : zQV RL 128 yX6_keep cX6_keep 2 (some .int) 0 := ⟨zTB_of (zmem4 (List.mem_of_getElem? (i := 140) rfl)) rfl, zy_X6_keep⟩
theorem q_L_132 : zQV RL 132 yX6_back cX6_back 2 (some .int) 0 := ⟨zTB_of (zmem4 (List.mem_of_getElem? (i := 144) rfl)) rfl, zy_X6_back⟩
theorem q_L_136 : zQV RL 136 yX6_count cX6_count 2 (some .int) 1 := ⟨zTB_of (zmem4 (List.mem_of_getElem? (i := 148) rfl)) rfl, zy_X6_count⟩
theorem kc_J6_265 : Cond.constant RJ6 265 (1431655765) ∈ zTB := zTB_of (zmem3 (List.mem_of_getElem? (i := 10) rfl)) rfl
theorem kc_J6_266 : Cond.constant RJ6 266 (858993459) ∈ zTB := zTB_of (zmem3 (List.mem_of_getElem? (i := 11) rfl)) rfl
theorem kc_J6_267 : Cond.constant RJ6 267 (252645135) ∈ zTB := zTB_of (zmem3 (List.mem_of_getElem? (i := 12) rfl)) rfl
theorem kl_X5_223 : Cond.constantLong RX5 223 (7919) ∈ zTB := zTB_of (zmem3 (List.mem_of_getElem? (i := 84) rfl)) rfl
theorem kl_X5_225 : Cond.constantLong RX5 225 (6151) ∈ zTB := zTB_of (zmem3 (List.mem_of_getElem? (i := 85) rfl)) rfl
theorem kl_X5_227 : Cond.constantLong RX5 227 (65521) ∈ zTB := zTB_of (zmem3 (List.mem_of_getElem? (i := 86) rfl)) rfl
theorem kl_X5_229 : Cond.constantLong RX5 229 (8) ∈ zTB := zTB_of (zmem3 (List.mem_of_getElem? (i := 87) rfl)) rfl
theorem kl_X6_145 : Cond.constantLong RX6 145 (7919) ∈ zTB := zTB_of (zmem4 (List.mem_of_getElem? (i := 133) rfl)) rfl
theorem kl_X6_147 : Cond.constantLong RX6 147 (6151) ∈ zTB := zTB_of (zmem4 (List.mem_of_getElem? (i := 134) rfl)) rfl
theorem kl_X6_149 : Cond.constantLong RX6 149 (65521) ∈ zTB := zTB_of (zmem4 (List.mem_of_getElem? (i := 135) rfl)) rfl
theorem q_X3_46 : zQN RX3 46 yX5_isOutside cX5_isOutside 3 (some .boolean) 3 := ⟨fun _ h => h.1, zy_X5_isOutside⟩
theorem q_X0_33 : zQN RX0 33 yX5_isOutside cX5_isOutside 3 (some .boolean) 3 := ⟨fun _ h => h.2.1, zy_X5_isOutside⟩
theorem q_X2_22 : zQN RX2 22 yX5_isOutside cX5_isOutside 3 (some .boolean) 3 := ⟨fun _ h => h.2.2, zy_X5_isOutside⟩
end
section
/-- a sitting: members, amount, heat, salt, rounds, fastHunger; kind, spoon, hunger, bears, eaten -/
abbrev SV : Type := Int × Int × Int × Int × Int × Int × (Int → Int) × (Int → Int) × (Int → Int) × (Int → Int) × (Int → Int)
/-- all of the class: sittings (0 now, 1 trial, 2..9 undoable, 10, 11 kept); text; sets; sightings; the two piles -/
abbrev CS : Type := (Nat → SV) × ((Int → Int) × (Int → Int) × Int) × ((Int → Int) × Int × Int) × ((Int → Int) × (Int → Int) × Int) × ((Int → Nat) × Int) × ((Int → Nat) × Int)
def qn (v : SV) : Int := v.1
def qam (v : SV) : Int := v.2.1
def qhe (v : SV) : Int := v.2.2.1
def qsa (v : SV) : Int := v.2.2.2.1
def qro (v : SV) : Int := v.2.2.2.2.1
def qfa (v : SV) : Int := v.2.2.2.2.2.1
def qkd (v : SV) : Int → Int := v.2.2.2.2.2.2.1
def qsp (v : SV) : Int → Int := v.2.2.2.2.2.2.2.1
def qhu (v : SV) : Int → Int := v.2.2.2.2.2.2.2.2.1
def qbe (v : SV) : Int → Int := v.2.2.2.2.2.2.2.2.2.1
def qea (v : SV) : Int → Int := v.2.2.2.2.2.2.2.2.2.2
def sitE (K : zK) (j : Nat) (v : SV) : Nat → va_E := fun a => match a with
  | 0 => .inr (3, [.ref (kad K (6 * j + 14)), .ref (kad K (6 * j + 15)), .ref (kad K (6 * j + 16)), .ref (kad K (6 * j + 17)), .ref (kad K (6 * j + 18)), .int (iI (qn v)), .int (iI (qam v)), .int (iI (qhe v)), .int (iI (qsa v)), .int (iI (qro v)), .int (iI (qfa v))])
  | 1 => .inl (kI K, 7, .inl (aI (qkd v)))
  | 2 => .inl (kI K, 7, .inl (aI (qsp v)))
  | 3 => .inl (kI K, 7, .inl (aI (qhu v)))
  | 4 => .inl (kI K, 7, .inl (aI (qbe v)))
  | _ => .inl (kI K, 7, .inl (aI (qea v)))
def pileC (g : Int → Nat) : Int → Nat := fun q => 6 * g q + 13
def layC (K : zK) (c : CS) : zE := fun k => match k with
  | 0 => .inr (5, [.ref (kad K 1), .ref (kad K (6 * 0 + 13)), .ref (kad K (6 * 1 + 13)), .ref (kad K 4), .ref (kad K 6), .ref (kad K 9), .ref (kad K 11)])
  | 1 => .inr (4, [.ref (kad K 2), .ref (kad K 3), .int (iI c.2.1.2.2)])
  | 2 => .inl (kC K, 200, .inl (aI c.2.1.1))
  | 3 => .inl (kI K, 4, .inl (aI c.2.1.2.1))
  | 4 => .inr (1, [.ref (kad K 5), .int (iI c.2.2.1.2.1), .int (iI c.2.2.1.2.2)])
  | 5 => .inl (kI K, 7, .inl (aI c.2.2.1.1))
  | 6 => .inr (2, [.ref (kad K 7), .ref (kad K 8), .int (iI c.2.2.2.1.2.2)])
  | 7 => .inl (kI K, 6, .inl (aI c.2.2.2.1.1))
  | 8 => .inl (kI K, 6, .inl (aI c.2.2.2.1.2.1))
  | 9 => .inr (0, [.ref (kad K 10), .int (iI c.2.2.2.2.1.2)])
  | 10 => .inl (kS K, 8, .inr (.inr (.inr (.inr (rI K (pileC c.2.2.2.2.1.1))))))
  | 11 => .inr (0, [.ref (kad K 12), .int (iI c.2.2.2.2.2.2)])
  | 12 => .inl (kS K, 2, .inr (.inr (.inr (.inr (rI K (pileC c.2.2.2.2.2.1))))))
  | k + 13 => sitE K (k / 6) (c.1 (k / 6)) (k % 6)
def upS (S : Nat → SV) (j : Nat) (v : SV) : Nat → SV := fun i => if i = j then v else S i
/-- sitting j holds v -/
def wS (c : CS) (j : Nat) (v : SV) : CS := (upS c.1 j v, c.2)
theorem upS_s (S : Nat → SV) (j : Nat) (v : SV) : upS S j v j = v := by simp [upS]
theorem upS_n (S : Nat → SV) {j i : Nat} (v : SV) (h : i ≠ j) : upS S j v i = S i := by simp [upS, h]
theorem upS_id (S : Nat → SV) (j : Nat) : upS S j (S j) = S := by
  funext i
  unfold upS
  by_cases h : i = j
  · rw [if_pos h, h]
  · rw [if_neg h]
theorem upS_up (S : Nat → SV) (j : Nat) (v u : SV) : upS (upS S j v) j u = upS S j u := by
  funext i
  unfold upS
  by_cases h : i = j
  · rw [if_pos h, if_pos h]
  · rw [if_neg h, if_neg h, if_neg h]
theorem wS_id (c : CS) (j : Nat) : wS c j (c.1 j) = c := by unfold wS; rw [upS_id]
theorem wS_up (c : CS) (j : Nat) (v u : SV) : wS (wS c j v) j u = wS c j u := by unfold wS; rw [upS_up]
theorem wS_s (c : CS) (j : Nat) (v : SV) : (wS c j v).1 j = v := upS_s _ _ _
theorem wS_n (c : CS) {j i : Nat} (v : SV) (h : i ≠ j) : (wS c j v).1 i = c.1 i := upS_n _ _ h
theorem lay_k (K : zK) (c : CS) (k : Nat) : layC K c (k + 13) = sitE K (k / 6) (c.1 (k / 6)) (k % 6) := rfl
theorem lay_j (K : zK) (c : CS) (j a : Nat) (ha : a < 6) : layC K c (6 * j + a + 13) = sitE K j (c.1 j) a := by
  rw [lay_k, show (6 * j + a) / 6 = j by omega, show (6 * j + a) % 6 = a by omega]
theorem lay_ja (K : zK) (c : CS) (j : Nat) (v : SV) (a : Nat) (ha : a < 6) : layC K (wS c j v) (6 * j + a + 13) = sitE K j v a := by
  rw [lay_j K _ j a ha, wS_s]
theorem lay_q (K : zK) (c : CS) (j : Nat) (v : SV) (a : Nat) {q : Nat} (hq : q = 6 * j + a + 13) (ha : a < 6) {e : va_E} (he : sitE K j v a = e) : layC K (wS c j v) q = e := by
  rw [hq, lay_ja K c j v a ha, he]
theorem lay_qj (K : zK) (c : CS) (j a : Nat) {q : Nat} (hq : q = 6 * j + a + 13) (ha : a < 6) {e : va_E} (he : sitE K j (c.1 j) a = e) : layC K c q = e := by
  rw [hq, lay_j K c j a ha, he]
theorem lay_j0 (K : zK) (c : CS) (j : Nat) : layC K c (6 * j + 13) = .inr (3, [.ref (kad K (6 * j + 14)), .ref (kad K (6 * j + 15)), .ref (kad K (6 * j + 16)), .ref (kad K (6 * j + 17)), .ref (kad K (6 * j + 18)), .int (iI (qn (c.1 j))), .int (iI (qam (c.1 j))), .int (iI (qhe (c.1 j))), .int (iI (qsa (c.1 j))), .int (iI (qro (c.1 j))), .int (iI (qfa (c.1 j)))]) := lay_qj K c j 0 (by omega) (by decide) rfl
/-- a write into one cell of sitting j -/
theorem lay_up (K : zK) (c : CS) (j : Nat) (v u : SV) (a : Nat) {q : Nat} (hq : q = 6 * j + a + 13) (ha : a < 6) (e : va_E) (he : sitE K j u a = e) (ho : ∀ b : Nat, b < 6 → b ≠ a → sitE K j u b = sitE K j v b) : zup (layC K (wS c j v)) q e = layC K (wS c j u) := by
  subst hq
  funext k
  unfold zup
  by_cases hk : k = 6 * j + a + 13
  · rw [if_pos hk, hk, lay_ja K c j u a ha, he]
  · rw [if_neg hk]
    match k, hk with
    | 0, _ => rfl
    | 1, _ => rfl
    | 2, _ => rfl
    | 3, _ => rfl
    | 4, _ => rfl
    | 5, _ => rfl
    | 6, _ => rfl
    | 7, _ => rfl
    | 8, _ => rfl
    | 9, _ => rfl
    | 10, _ => rfl
    | 11, _ => rfl
    | 12, _ => rfl
    | q + 13, hk =>
      by_cases hj : q / 6 = j
      · have e1 : q = 6 * j + q % 6 := by omega
        have hb : q % 6 < 6 := Nat.mod_lt _ (by decide)
        rw [e1, lay_ja K c j u (q % 6) hb, lay_ja K c j v (q % 6) hb]
        exact (ho (q % 6) hb (by omega)).symm
      · rw [lay_k, lay_k, wS_n c v hj, wS_n c u hj]
theorem six {p : Nat → Prop} (h0 : p 0) (h1 : p 1) (h2 : p 2) (h3 : p 3) (h4 : p 4) (h5 : p 5) : ∀ b : Nat, b < 6 → p b := by
  intro b hb
  match b, hb with
  | 0, _ => exact h0
  | 1, _ => exact h1
  | 2, _ => exact h2
  | 3, _ => exact h3
  | 4, _ => exact h4
  | 5, _ => exact h5
  | b + 6, h => omega

theorem s_get_n {K : zK} {X : zX} {cc : ByteArray} {own : String} {ret : Option FieldType} {nL f pc : Nat} {lo : List (Nat × Value)} {st : List Value} {idx : Nat} {c : CS} {j : Nat} {n am he sa ro fa : Int} {kd sp hu be ea : Int → Int} (O : zO K X cc own ret nL f) (hN : kN K = 85) (hj : j < 12) (hw : Cond.fieldLink own idx RX3 (TX3 5).2.1 (TX3 5).2.2.1 ∈ zTB) (hd : decode cc pc = .ok (.getfield idx, 3)) (k : G K X nL (pc + 3) lo (.int (iI n) :: st) (layC K (wS c j (n, am, he, sa, ro, fa, kd, sp, hu, be, ea)))) : G K X nL pc lo (.ref (kad K (6 * j + 13)) :: st) (layC K (wS c j (n, am, he, sa, ro, fa, kd, sp, hu, be, ea))) :=
  r_get O (by rw [hN]; omega) (lay_q K c j (n, am, he, sa, ro, fa, kd, sp, hu, be, ea) 0 (by omega) (by decide) rfl) zCl3 hw (by decide) rfl hd k
theorem s_put_n {K : zK} {X : zX} {cc : ByteArray} {own : String} {ret : Option FieldType} {nL f pc : Nat} {lo : List (Nat × Value)} {st : List Value} {idx : Nat} {x : Int} {c : CS} {j : Nat} {n am he sa ro fa : Int} {kd sp hu be ea : Int → Int} (O : zO K X cc own ret nL f) (hN : kN K = 85) (hj : j < 12) (hw : Cond.fieldLink own idx RX3 (TX3 5).2.1 (TX3 5).2.2.1 ∈ zTB) (hd : decode cc pc = .ok (.putfield idx, 3)) (k : G K X nL (pc + 3) lo st (layC K (wS c j (x, am, he, sa, ro, fa, kd, sp, hu, be, ea)))) : G K X nL pc lo (.int (iI x) :: .ref (kad K (6 * j + 13)) :: st) (layC K (wS c j (n, am, he, sa, ro, fa, kd, sp, hu, be, ea))) := by
  refine r_put (ty := .int) O (by rw [hN]; omega) (lay_q K c j (n, am, he, sa, ro, fa, kd, sp, hu, be, ea) 0 (by omega) (by decide) rfl) zCl3 hw (by decide) rfl (by decide +kernel) rfl rfl (Nat.le_of_ble_eq_true rfl) hd ?_
  exact G_ct (lay_up K c j (n, am, he, sa, ro, fa, kd, sp, hu, be, ea) (x, am, he, sa, ro, fa, kd, sp, hu, be, ea) 0 (by omega) (by decide) _ rfl (six (fun h => absurd rfl h) (fun _ => by simp only [sitE, qn, qam, qhe, qsa, qro, qfa, qkd, qsp, qhu, qbe, qea]) (fun _ => by simp only [sitE, qn, qam, qhe, qsa, qro, qfa, qkd, qsp, qhu, qbe, qea]) (fun _ => by simp only [sitE, qn, qam, qhe, qsa, qro, qfa, qkd, qsp, qhu, qbe, qea]) (fun _ => by simp only [sitE, qn, qam, qhe, qsa, qro, qfa, qkd, qsp, qhu, qbe, qea]) (fun _ => by simp only [sitE, qn, qam, qhe, qsa, qro, qfa, qkd, qsp, qhu, qbe, qea]))) k
theorem s_get_am {K : zK} {X : zX} {cc : ByteArray} {own : String} {ret : Option FieldType} {nL f pc : Nat} {lo : List (Nat × Value)} {st : List Value} {idx : Nat} {c : CS} {j : Nat} {n am he sa ro fa : Int} {kd sp hu be ea : Int → Int} (O : zO K X cc own ret nL f) (hN : kN K = 85) (hj : j < 12) (hw : Cond.fieldLink own idx RX3 (TX3 6).2.1 (TX3 6).2.2.1 ∈ zTB) (hd : decode cc pc = .ok (.getfield idx, 3)) (k : G K X nL (pc + 3) lo (.int (iI am) :: st) (layC K (wS c j (n, am, he, sa, ro, fa, kd, sp, hu, be, ea)))) : G K X nL pc lo (.ref (kad K (6 * j + 13)) :: st) (layC K (wS c j (n, am, he, sa, ro, fa, kd, sp, hu, be, ea))) :=
  r_get O (by rw [hN]; omega) (lay_q K c j (n, am, he, sa, ro, fa, kd, sp, hu, be, ea) 0 (by omega) (by decide) rfl) zCl3 hw (by decide) rfl hd k
theorem s_put_am {K : zK} {X : zX} {cc : ByteArray} {own : String} {ret : Option FieldType} {nL f pc : Nat} {lo : List (Nat × Value)} {st : List Value} {idx : Nat} {x : Int} {c : CS} {j : Nat} {n am he sa ro fa : Int} {kd sp hu be ea : Int → Int} (O : zO K X cc own ret nL f) (hN : kN K = 85) (hj : j < 12) (hw : Cond.fieldLink own idx RX3 (TX3 6).2.1 (TX3 6).2.2.1 ∈ zTB) (hd : decode cc pc = .ok (.putfield idx, 3)) (k : G K X nL (pc + 3) lo st (layC K (wS c j (n, x, he, sa, ro, fa, kd, sp, hu, be, ea)))) : G K X nL pc lo (.int (iI x) :: .ref (kad K (6 * j + 13)) :: st) (layC K (wS c j (n, am, he, sa, ro, fa, kd, sp, hu, be, ea))) := by
  refine r_put (ty := .int) O (by rw [hN]; omega) (lay_q K c j (n, am, he, sa, ro, fa, kd, sp, hu, be, ea) 0 (by omega) (by decide) rfl) zCl3 hw (by decide) rfl (by decide +kernel) rfl rfl (Nat.le_of_ble_eq_true rfl) hd ?_
  exact G_ct (lay_up K c j (n, am, he, sa, ro, fa, kd, sp, hu, be, ea) (n, x, he, sa, ro, fa, kd, sp, hu, be, ea) 0 (by omega) (by decide) _ rfl (six (fun h => absurd rfl h) (fun _ => by simp only [sitE, qn, qam, qhe, qsa, qro, qfa, qkd, qsp, qhu, qbe, qea]) (fun _ => by simp only [sitE, qn, qam, qhe, qsa, qro, qfa, qkd, qsp, qhu, qbe, qea]) (fun _ => by simp only [sitE, qn, qam, qhe, qsa, qro, qfa, qkd, qsp, qhu, qbe, qea]) (fun _ => by simp only [sitE, qn, qam, qhe, qsa, qro, qfa, qkd, qsp, qhu, qbe, qea]) (fun _ => by simp only [sitE, qn, qam, qhe, qsa, qro, qfa, qkd, qsp, qhu, qbe, qea]))) k
theorem s_get_he {K : zK} {X : zX} {cc : ByteArray} {own : String} {ret : Option FieldType} {nL f pc : Nat} {lo : List (Nat × Value)} {st : List Value} {idx : Nat} {c : CS} {j : Nat} {n am he sa ro fa : Int} {kd sp hu be ea : Int → Int} (O : zO K X cc own ret nL f) (hN : kN K = 85) (hj : j < 12) (hw : Cond.fieldLink own idx RX3 (TX3 7).2.1 (TX3 7).2.2.1 ∈ zTB) (hd : decode cc pc = .ok (.getfield idx, 3)) (k : G K X nL (pc + 3) lo (.int (iI he) :: st) (layC K (wS c j (n, am, he, sa, ro, fa, kd, sp, hu, be, ea)))) : G K X nL pc lo (.ref (kad K (6 * j + 13)) :: st) (layC K (wS c j (n, am, he, sa, ro, fa, kd, sp, hu, be, ea))) :=
  r_get O (by rw [hN]; omega) (lay_q K c j (n, am, he, sa, ro, fa, kd, sp, hu, be, ea) 0 (by omega) (by decide) rfl) zCl3 hw (by decide) rfl hd k
theorem s_put_he {K : zK} {X : zX} {cc : ByteArray} {own : String} {ret : Option FieldType} {nL f pc : Nat} {lo : List (Nat × Value)} {st : List Value} {idx : Nat} {x : Int} {c : CS} {j : Nat} {n am he sa ro fa : Int} {kd sp hu be ea : Int → Int} (O : zO K X cc own ret nL f) (hN : kN K = 85) (hj : j < 12) (hw : Cond.fieldLink own idx RX3 (TX3 7).2.1 (TX3 7).2.2.1 ∈ zTB) (hd : decode cc pc = .ok (.putfield idx, 3)) (k : G K X nL (pc + 3) lo st (layC K (wS c j (n, am, x, sa, ro, fa, kd, sp, hu, be, ea)))) : G K X nL pc lo (.int (iI x) :: .ref (kad K (6 * j + 13)) :: st) (layC K (wS c j (n, am, he, sa, ro, fa, kd, sp, hu, be, ea))) := by
  refine r_put (ty := .int) O (by rw [hN]; omega) (lay_q K c j (n, am, he, sa, ro, fa, kd, sp, hu, be, ea) 0 (by omega) (by decide) rfl) zCl3 hw (by decide) rfl (by decide +kernel) rfl rfl (Nat.le_of_ble_eq_true rfl) hd ?_
  exact G_ct (lay_up K c j (n, am, he, sa, ro, fa, kd, sp, hu, be, ea) (n, am, x, sa, ro, fa, kd, sp, hu, be, ea) 0 (by omega) (by decide) _ rfl (six (fun h => absurd rfl h) (fun _ => by simp only [sitE, qn, qam, qhe, qsa, qro, qfa, qkd, qsp, qhu, qbe, qea]) (fun _ => by simp only [sitE, qn, qam, qhe, qsa, qro, qfa, qkd, qsp, qhu, qbe, qea]) (fun _ => by simp only [sitE, qn, qam, qhe, qsa, qro, qfa, qkd, qsp, qhu, qbe, qea]) (fun _ => by simp only [sitE, qn, qam, qhe, qsa, qro, qfa, qkd, qsp, qhu, qbe, qea]) (fun _ => by simp only [sitE, qn, qam, qhe, qsa, qro, qfa, qkd, qsp, qhu, qbe, qea]))) k
theorem s_get_sa {K : zK} {X : zX} {cc : ByteArray} {own : String} {ret : Option FieldType} {nL f pc : Nat} {lo : List (Nat × Value)} {st : List Value} {idx : Nat} {c : CS} {j : Nat} {n am he sa ro fa : Int} {kd sp hu be ea : Int → Int} (O : zO K X cc own ret nL f) (hN : kN K = 85) (hj : j < 12) (hw : Cond.fieldLink own idx RX3 (TX3 8).2.1 (TX3 8).2.2.1 ∈ zTB) (hd : decode cc pc = .ok (.getfield idx, 3)) (k : G K X nL (pc + 3) lo (.int (iI sa) :: st) (layC K (wS c j (n, am, he, sa, ro, fa, kd, sp, hu, be, ea)))) : G K X nL pc lo (.ref (kad K (6 * j + 13)) :: st) (layC K (wS c j (n, am, he, sa, ro, fa, kd, sp, hu, be, ea))) :=
  r_get O (by rw [hN]; omega) (lay_q K c j (n, am, he, sa, ro, fa, kd, sp, hu, be, ea) 0 (by omega) (by decide) rfl) zCl3 hw (by decide) rfl hd k
theorem s_put_sa {K : zK} {X : zX} {cc : ByteArray} {own : String} {ret : Option FieldType} {nL f pc : Nat} {lo : List (Nat × Value)} {st : List Value} {idx : Nat} {x : Int} {c : CS} {j : Nat} {n am he sa ro fa : Int} {kd sp hu be ea : Int → Int} (O : zO K X cc own ret nL f) (hN : kN K = 85) (hj : j < 12) (hw : Cond.fieldLink own idx RX3 (TX3 8).2.1 (TX3 8).2.2.1 ∈ zTB) (hd : decode cc pc = .ok (.putfield idx, 3)) (k : G K X nL (pc + 3) lo st (layC K (wS c j (n, am, he, x, ro, fa, kd, sp, hu, be, ea)))) : G K X nL pc lo (.int (iI x) :: .ref (kad K (6 * j + 13)) :: st) (layC K (wS c j (n, am, he, sa, ro, fa, kd, sp, hu, be, ea))) := by
  refine r_put (ty := .int) O (by rw [hN]; omega) (lay_q K c j (n, am, he, sa, ro, fa, kd, sp, hu, be, ea) 0 (by omega) (by decide) rfl) zCl3 hw (by decide) rfl (by decide +kernel) rfl rfl (Nat.le_of_ble_eq_true rfl) hd ?_
  exact G_ct (lay_up K c j (n, am, he, sa, ro, fa, kd, sp, hu, be, ea) (n, am, he, x, ro, fa, kd, sp, hu, be, ea) 0 (by omega) (by decide) _ rfl (six (fun h => absurd rfl h) (fun _ => by simp only [sitE, qn, qam, qhe, qsa, qro, qfa, qkd, qsp, qhu, qbe, qea]) (fun _ => by simp only [sitE, qn, qam, qhe, qsa, qro, qfa, qkd, qsp, qhu, qbe, qea]) (fun _ => by simp only [sitE, qn, qam, qhe, qsa, qro, qfa, qkd, qsp, qhu, qbe, qea]) (fun _ => by simp only [sitE, qn, qam, qhe, qsa, qro, qfa, qkd, qsp, qhu, qbe, qea]) (fun _ => by simp only [sitE, qn, qam, qhe, qsa, qro, qfa, qkd, qsp, qhu, qbe, qea]))) k
theorem s_get_ro {K : zK} {X : zX} {cc : ByteArray} {own : String} {ret : Option FieldType} {nL f pc : Nat} {lo : List (Nat × Value)} {st : List Value} {idx : Nat} {c : CS} {j : Nat} {n am he sa ro fa : Int} {kd sp hu be ea : Int → Int} (O : zO K X cc own ret nL f) (hN : kN K = 85) (hj : j < 12) (hw : Cond.fieldLink own idx RX3 (TX3 9).2.1 (TX3 9).2.2.1 ∈ zTB) (hd : decode cc pc = .ok (.getfield idx, 3)) (k : G K X nL (pc + 3) lo (.int (iI ro) :: st) (layC K (wS c j (n, am, he, sa, ro, fa, kd, sp, hu, be, ea)))) : G K X nL pc lo (.ref (kad K (6 * j + 13)) :: st) (layC K (wS c j (n, am, he, sa, ro, fa, kd, sp, hu, be, ea))) :=
  r_get O (by rw [hN]; omega) (lay_q K c j (n, am, he, sa, ro, fa, kd, sp, hu, be, ea) 0 (by omega) (by decide) rfl) zCl3 hw (by decide) rfl hd k
theorem s_put_ro {K : zK} {X : zX} {cc : ByteArray} {own : String} {ret : Option FieldType} {nL f pc : Nat} {lo : List (Nat × Value)} {st : List Value} {idx : Nat} {x : Int} {c : CS} {j : Nat} {n am he sa ro fa : Int} {kd sp hu be ea : Int → Int} (O : zO K X cc own ret nL f) (hN : kN K = 85) (hj : j < 12) (hw : Cond.fieldLink own idx RX3 (TX3 9).2.1 (TX3 9).2.2.1 ∈ zTB) (hd : decode cc pc = .ok (.putfield idx, 3)) (k : G K X nL (pc + 3) lo st (layC K (wS c j (n, am, he, sa, x, fa, kd, sp, hu, be, ea)))) : G K X nL pc lo (.int (iI x) :: .ref (kad K (6 * j + 13)) :: st) (layC K (wS c j (n, am, he, sa, ro, fa, kd, sp, hu, be, ea))) := by
  refine r_put (ty := .int) O (by rw [hN]; omega) (lay_q K c j (n, am, he, sa, ro, fa, kd, sp, hu, be, ea) 0 (by omega) (by decide) rfl) zCl3 hw (by decide) rfl (by decide +kernel) rfl rfl (Nat.le_of_ble_eq_true rfl) hd ?_
  exact G_ct (lay_up K c j (n, am, he, sa, ro, fa, kd, sp, hu, be, ea) (n, am, he, sa, x, fa, kd, sp, hu, be, ea) 0 (by omega) (by decide) _ rfl (six (fun h => absurd rfl h) (fun _ => by simp only [sitE, qn, qam, qhe, qsa, qro, qfa, qkd, qsp, qhu, qbe, qea]) (fun _ => by simp only [sitE, qn, qam, qhe, qsa, qro, qfa, qkd, qsp, qhu, qbe, qea]) (fun _ => by simp only [sitE, qn, qam, qhe, qsa, qro, qfa, qkd, qsp, qhu, qbe, qea]) (fun _ => by simp only [sitE, qn, qam, qhe, qsa, qro, qfa, qkd, qsp, qhu, qbe, qea]) (fun _ => by simp only [sitE, qn, qam, qhe, qsa, qro, qfa, qkd, qsp, qhu, qbe, qea]))) k
theorem s_get_fa {K : zK} {X : zX} {cc : ByteArray} {own : String} {ret : Option FieldType} {nL f pc : Nat} {lo : List (Nat × Value)} {st : List Value} {idx : Nat} {c : CS} {j : Nat} {n am he sa ro fa : Int} {kd sp hu be ea : Int → Int} (O : zO K X cc own ret nL f) (hN : kN K = 85) (hj : j < 12) (hw : Cond.fieldLink own idx RX3 (TX3 10).2.1 (TX3 10).2.2.1 ∈ zTB) (hd : decode cc pc = .ok (.getfield idx, 3)) (k : G K X nL (pc + 3) lo (.int (iI fa) :: st) (layC K (wS c j (n, am, he, sa, ro, fa, kd, sp, hu, be, ea)))) : G K X nL pc lo (.ref (kad K (6 * j + 13)) :: st) (layC K (wS c j (n, am, he, sa, ro, fa, kd, sp, hu, be, ea))) :=
  r_get O (by rw [hN]; omega) (lay_q K c j (n, am, he, sa, ro, fa, kd, sp, hu, be, ea) 0 (by omega) (by decide) rfl) zCl3 hw (by decide) rfl hd k
theorem s_put_fa {K : zK} {X : zX} {cc : ByteArray} {own : String} {ret : Option FieldType} {nL f pc : Nat} {lo : List (Nat × Value)} {st : List Value} {idx : Nat} {x : Int} {c : CS} {j : Nat} {n am he sa ro fa : Int} {kd sp hu be ea : Int → Int} (O : zO K X cc own ret nL f) (hN : kN K = 85) (hj : j < 12) (hw : Cond.fieldLink own idx RX3 (TX3 10).2.1 (TX3 10).2.2.1 ∈ zTB) (hd : decode cc pc = .ok (.putfield idx, 3)) (k : G K X nL (pc + 3) lo st (layC K (wS c j (n, am, he, sa, ro, x, kd, sp, hu, be, ea)))) : G K X nL pc lo (.int (iI x) :: .ref (kad K (6 * j + 13)) :: st) (layC K (wS c j (n, am, he, sa, ro, fa, kd, sp, hu, be, ea))) := by
  refine r_put (ty := .int) O (by rw [hN]; omega) (lay_q K c j (n, am, he, sa, ro, fa, kd, sp, hu, be, ea) 0 (by omega) (by decide) rfl) zCl3 hw (by decide) rfl (by decide +kernel) rfl rfl (Nat.le_of_ble_eq_true rfl) hd ?_
  exact G_ct (lay_up K c j (n, am, he, sa, ro, fa, kd, sp, hu, be, ea) (n, am, he, sa, ro, x, kd, sp, hu, be, ea) 0 (by omega) (by decide) _ rfl (six (fun h => absurd rfl h) (fun _ => by simp only [sitE, qn, qam, qhe, qsa, qro, qfa, qkd, qsp, qhu, qbe, qea]) (fun _ => by simp only [sitE, qn, qam, qhe, qsa, qro, qfa, qkd, qsp, qhu, qbe, qea]) (fun _ => by simp only [sitE, qn, qam, qhe, qsa, qro, qfa, qkd, qsp, qhu, qbe, qea]) (fun _ => by simp only [sitE, qn, qam, qhe, qsa, qro, qfa, qkd, qsp, qhu, qbe, qea]) (fun _ => by simp only [sitE, qn, qam, qhe, qsa, qro, qfa, qkd, qsp, qhu, qbe, qea]))) k
theorem s_arr_kd {K : zK} {X : zX} {cc : ByteArray} {own : String} {ret : Option FieldType} {nL f pc : Nat} {lo : List (Nat × Value)} {st : List Value} {idx : Nat} {v : SV} {c : CS} {j : Nat} (O : zO K X cc own ret nL f) (hN : kN K = 85) (hj : j < 12) (hw : Cond.fieldLink own idx RX3 (TX3 0).2.1 (TX3 0).2.2.1 ∈ zTB) (hd : decode cc pc = .ok (.getfield idx, 3)) (k : G K X nL (pc + 3) lo (.ref (kad K (6 * j + 14)) :: st) (layC K (wS c j v))) : G K X nL pc lo (.ref (kad K (6 * j + 13)) :: st) (layC K (wS c j v)) :=
  r_get O (by rw [hN]; omega) (lay_q K c j v 0 (by omega) (by decide) rfl) zCl3 hw (by decide) rfl hd k
theorem s_ld_kd {K : zK} {X : zX} {cc : ByteArray} {own : String} {ret : Option FieldType} {nL f pc : Nat} {lo : List (Nat × Value)} {st : List Value} {z : Int} {c : CS} {j : Nat} {n am he sa ro fa : Int} {kd sp hu be ea : Int → Int} (O : zO K X cc own ret nL f) (hN : kN K = 85) (hj : j < 12) (h0 : 0 ≤ z) (h1 : z < 7) (hd : decode cc pc = .ok (.iaload, 1)) (k : G K X nL (pc + 1) lo (.int (iI (kd z)) :: st) (layC K (wS c j (n, am, he, sa, ro, fa, kd, sp, hu, be, ea)))) : G K X nL pc lo (.int (iI z) :: .ref (kad K (6 * j + 14)) :: st) (layC K (wS c j (n, am, he, sa, ro, fa, kd, sp, hu, be, ea))) :=
  r_iald O (by rw [hN]; omega) (lay_q K c j (n, am, he, sa, ro, fa, kd, sp, hu, be, ea) 1 (by omega) (by decide) rfl : layC K (wS c j (n, am, he, sa, ro, fa, kd, sp, hu, be, ea)) (6 * j + 14) = .inl (kI K, 7, .inl (aI kd))) h0 h1 (by decide) hd k
theorem s_st_kd {K : zK} {X : zX} {cc : ByteArray} {own : String} {ret : Option FieldType} {nL f pc : Nat} {lo : List (Nat × Value)} {st : List Value} {z x : Int} {c : CS} {j : Nat} {n am he sa ro fa : Int} {kd sp hu be ea : Int → Int} (O : zO K X cc own ret nL f) (hN : kN K = 85) (hj : j < 12) (h0 : 0 ≤ z) (h1 : z < 7) (hd : decode cc pc = .ok (.iastore, 1)) (k : G K X nL (pc + 1) lo st (layC K (wS c j (n, am, he, sa, ro, fa, uI kd z x, sp, hu, be, ea)))) : G K X nL pc lo (.int (iI x) :: .int (iI z) :: .ref (kad K (6 * j + 14)) :: st) (layC K (wS c j (n, am, he, sa, ro, fa, kd, sp, hu, be, ea))) := by
  refine r_iast O (by rw [hN]; omega) (lay_q K c j (n, am, he, sa, ro, fa, kd, sp, hu, be, ea) 1 (by omega) (by decide) rfl : layC K (wS c j (n, am, he, sa, ro, fa, kd, sp, hu, be, ea)) (6 * j + 14) = .inl (kI K, 7, .inl (aI kd))) h0 h1 (by decide) hd ?_
  exact G_ct (lay_up K c j (n, am, he, sa, ro, fa, kd, sp, hu, be, ea) (n, am, he, sa, ro, fa, uI kd z x, sp, hu, be, ea) 1 (by omega) (by decide) _ rfl (six (fun _ => by simp only [sitE, qn, qam, qhe, qsa, qro, qfa, qkd, qsp, qhu, qbe, qea]) (fun h => absurd rfl h) (fun _ => by simp only [sitE, qn, qam, qhe, qsa, qro, qfa, qkd, qsp, qhu, qbe, qea]) (fun _ => by simp only [sitE, qn, qam, qhe, qsa, qro, qfa, qkd, qsp, qhu, qbe, qea]) (fun _ => by simp only [sitE, qn, qam, qhe, qsa, qro, qfa, qkd, qsp, qhu, qbe, qea]) (fun _ => by simp only [sitE, qn, qam, qhe, qsa, qro, qfa, qkd, qsp, qhu, qbe, qea]))) k
theorem s_len_kd {K : zK} {X : zX} {cc : ByteArray} {own : String} {ret : Option FieldType} {nL f pc : Nat} {lo : List (Nat × Value)} {st : List Value} {v : SV} {c : CS} {j : Nat} (O : zO K X cc own ret nL f) (hN : kN K = 85) (hj : j < 12) (hd : decode cc pc = .ok (.arraylength, 1)) (k : G K X nL (pc + 1) lo (.int (iI 7) :: st) (layC K (wS c j v))) : G K X nL pc lo (.ref (kad K (6 * j + 14)) :: st) (layC K (wS c j v)) :=
  r_alen (n := 7) O (by rw [hN]; omega) (lay_q K c j v 1 (by omega) (by decide) rfl : layC K (wS c j v) (6 * j + 14) = .inl (kI K, 7, .inl (aI (qkd v)))) (Or.inl rfl) rfl hd k
theorem s_arr_sp {K : zK} {X : zX} {cc : ByteArray} {own : String} {ret : Option FieldType} {nL f pc : Nat} {lo : List (Nat × Value)} {st : List Value} {idx : Nat} {v : SV} {c : CS} {j : Nat} (O : zO K X cc own ret nL f) (hN : kN K = 85) (hj : j < 12) (hw : Cond.fieldLink own idx RX3 (TX3 1).2.1 (TX3 1).2.2.1 ∈ zTB) (hd : decode cc pc = .ok (.getfield idx, 3)) (k : G K X nL (pc + 3) lo (.ref (kad K (6 * j + 15)) :: st) (layC K (wS c j v))) : G K X nL pc lo (.ref (kad K (6 * j + 13)) :: st) (layC K (wS c j v)) :=
  r_get O (by rw [hN]; omega) (lay_q K c j v 0 (by omega) (by decide) rfl) zCl3 hw (by decide) rfl hd k
theorem s_ld_sp {K : zK} {X : zX} {cc : ByteArray} {own : String} {ret : Option FieldType} {nL f pc : Nat} {lo : List (Nat × Value)} {st : List Value} {z : Int} {c : CS} {j : Nat} {n am he sa ro fa : Int} {kd sp hu be ea : Int → Int} (O : zO K X cc own ret nL f) (hN : kN K = 85) (hj : j < 12) (h0 : 0 ≤ z) (h1 : z < 7) (hd : decode cc pc = .ok (.iaload, 1)) (k : G K X nL (pc + 1) lo (.int (iI (sp z)) :: st) (layC K (wS c j (n, am, he, sa, ro, fa, kd, sp, hu, be, ea)))) : G K X nL pc lo (.int (iI z) :: .ref (kad K (6 * j + 15)) :: st) (layC K (wS c j (n, am, he, sa, ro, fa, kd, sp, hu, be, ea))) :=
  r_iald O (by rw [hN]; omega) (lay_q K c j (n, am, he, sa, ro, fa, kd, sp, hu, be, ea) 2 (by omega) (by decide) rfl : layC K (wS c j (n, am, he, sa, ro, fa, kd, sp, hu, be, ea)) (6 * j + 15) = .inl (kI K, 7, .inl (aI sp))) h0 h1 (by decide) hd k
theorem s_st_sp {K : zK} {X : zX} {cc : ByteArray} {own : String} {ret : Option FieldType} {nL f pc : Nat} {lo : List (Nat × Value)} {st : List Value} {z x : Int} {c : CS} {j : Nat} {n am he sa ro fa : Int} {kd sp hu be ea : Int → Int} (O : zO K X cc own ret nL f) (hN : kN K = 85) (hj : j < 12) (h0 : 0 ≤ z) (h1 : z < 7) (hd : decode cc pc = .ok (.iastore, 1)) (k : G K X nL (pc + 1) lo st (layC K (wS c j (n, am, he, sa, ro, fa, kd, uI sp z x, hu, be, ea)))) : G K X nL pc lo (.int (iI x) :: .int (iI z) :: .ref (kad K (6 * j + 15)) :: st) (layC K (wS c j (n, am, he, sa, ro, fa, kd, sp, hu, be, ea))) := by
  refine r_iast O (by rw [hN]; omega) (lay_q K c j (n, am, he, sa, ro, fa, kd, sp, hu, be, ea) 2 (by omega) (by decide) rfl : layC K (wS c j (n, am, he, sa, ro, fa, kd, sp, hu, be, ea)) (6 * j + 15) = .inl (kI K, 7, .inl (aI sp))) h0 h1 (by decide) hd ?_
  exact G_ct (lay_up K c j (n, am, he, sa, ro, fa, kd, sp, hu, be, ea) (n, am, he, sa, ro, fa, kd, uI sp z x, hu, be, ea) 2 (by omega) (by decide) _ rfl (six (fun _ => by simp only [sitE, qn, qam, qhe, qsa, qro, qfa, qkd, qsp, qhu, qbe, qea]) (fun _ => by simp only [sitE, qn, qam, qhe, qsa, qro, qfa, qkd, qsp, qhu, qbe, qea]) (fun h => absurd rfl h) (fun _ => by simp only [sitE, qn, qam, qhe, qsa, qro, qfa, qkd, qsp, qhu, qbe, qea]) (fun _ => by simp only [sitE, qn, qam, qhe, qsa, qro, qfa, qkd, qsp, qhu, qbe, qea]) (fun _ => by simp only [sitE, qn, qam, qhe, qsa, qro, qfa, qkd, qsp, qhu, qbe, qea]))) k
theorem s_len_sp {K : zK} {X : zX} {cc : ByteArray} {own : String} {ret : Option FieldType} {nL f pc : Nat} {lo : List (Nat × Value)} {st : List Value} {v : SV} {c : CS} {j : Nat} (O : zO K X cc own ret nL f) (hN : kN K = 85) (hj : j < 12) (hd : decode cc pc = .ok (.arraylength, 1)) (k : G K X nL (pc + 1) lo (.int (iI 7) :: st) (layC K (wS c j v))) : G K X nL pc lo (.ref (kad K (6 * j + 15)) :: st) (layC K (wS c j v)) :=
  r_alen (n := 7) O (by rw [hN]; omega) (lay_q K c j v 2 (by omega) (by decide) rfl : layC K (wS c j v) (6 * j + 15) = .inl (kI K, 7, .inl (aI (qsp v)))) (Or.inl rfl) rfl hd k
theorem s_arr_hu {K : zK} {X : zX} {cc : ByteArray} {own : String} {ret : Option FieldType} {nL f pc : Nat} {lo : List (Nat × Value)} {st : List Value} {idx : Nat} {v : SV} {c : CS} {j : Nat} (O : zO K X cc own ret nL f) (hN : kN K = 85) (hj : j < 12) (hw : Cond.fieldLink own idx RX3 (TX3 2).2.1 (TX3 2).2.2.1 ∈ zTB) (hd : decode cc pc = .ok (.getfield idx, 3)) (k : G K X nL (pc + 3) lo (.ref (kad K (6 * j + 16)) :: st) (layC K (wS c j v))) : G K X nL pc lo (.ref (kad K (6 * j + 13)) :: st) (layC K (wS c j v)) :=
  r_get O (by rw [hN]; omega) (lay_q K c j v 0 (by omega) (by decide) rfl) zCl3 hw (by decide) rfl hd k
theorem s_ld_hu {K : zK} {X : zX} {cc : ByteArray} {own : String} {ret : Option FieldType} {nL f pc : Nat} {lo : List (Nat × Value)} {st : List Value} {z : Int} {c : CS} {j : Nat} {n am he sa ro fa : Int} {kd sp hu be ea : Int → Int} (O : zO K X cc own ret nL f) (hN : kN K = 85) (hj : j < 12) (h0 : 0 ≤ z) (h1 : z < 7) (hd : decode cc pc = .ok (.iaload, 1)) (k : G K X nL (pc + 1) lo (.int (iI (hu z)) :: st) (layC K (wS c j (n, am, he, sa, ro, fa, kd, sp, hu, be, ea)))) : G K X nL pc lo (.int (iI z) :: .ref (kad K (6 * j + 16)) :: st) (layC K (wS c j (n, am, he, sa, ro, fa, kd, sp, hu, be, ea))) :=
  r_iald O (by rw [hN]; omega) (lay_q K c j (n, am, he, sa, ro, fa, kd, sp, hu, be, ea) 3 (by omega) (by decide) rfl : layC K (wS c j (n, am, he, sa, ro, fa, kd, sp, hu, be, ea)) (6 * j + 16) = .inl (kI K, 7, .inl (aI hu))) h0 h1 (by decide) hd k
theorem s_st_hu {K : zK} {X : zX} {cc : ByteArray} {own : String} {ret : Option FieldType} {nL f pc : Nat} {lo : List (Nat × Value)} {st : List Value} {z x : Int} {c : CS} {j : Nat} {n am he sa ro fa : Int} {kd sp hu be ea : Int → Int} (O : zO K X cc own ret nL f) (hN : kN K = 85) (hj : j < 12) (h0 : 0 ≤ z) (h1 : z < 7) (hd : decode cc pc = .ok (.iastore, 1)) (k : G K X nL (pc + 1) lo st (layC K (wS c j (n, am, he, sa, ro, fa, kd, sp, uI hu z x, be, ea)))) : G K X nL pc lo (.int (iI x) :: .int (iI z) :: .ref (kad K (6 * j + 16)) :: st) (layC K (wS c j (n, am, he, sa, ro, fa, kd, sp, hu, be, ea))) := by
  refine r_iast O (by rw [hN]; omega) (lay_q K c j (n, am, he, sa, ro, fa, kd, sp, hu, be, ea) 3 (by omega) (by decide) rfl : layC K (wS c j (n, am, he, sa, ro, fa, kd, sp, hu, be, ea)) (6 * j + 16) = .inl (kI K, 7, .inl (aI hu))) h0 h1 (by decide) hd ?_
  exact G_ct (lay_up K c j (n, am, he, sa, ro, fa, kd, sp, hu, be, ea) (n, am, he, sa, ro, fa, kd, sp, uI hu z x, be, ea) 3 (by omega) (by decide) _ rfl (six (fun _ => by simp only [sitE, qn, qam, qhe, qsa, qro, qfa, qkd, qsp, qhu, qbe, qea]) (fun _ => by simp only [sitE, qn, qam, qhe, qsa, qro, qfa, qkd, qsp, qhu, qbe, qea]) (fun _ => by simp only [sitE, qn, qam, qhe, qsa, qro, qfa, qkd, qsp, qhu, qbe, qea]) (fun h => absurd rfl h) (fun _ => by simp only [sitE, qn, qam, qhe, qsa, qro, qfa, qkd, qsp, qhu, qbe, qea]) (fun _ => by simp only [sitE, qn, qam, qhe, qsa, qro, qfa, qkd, qsp, qhu, qbe, qea]))) k
theorem s_len_hu {K : zK} {X : zX} {cc : ByteArray} {own : String} {ret : Option FieldType} {nL f pc : Nat} {lo : List (Nat × Value)} {st : List Value} {v : SV} {c : CS} {j : Nat} (O : zO K X cc own ret nL f) (hN : kN K = 85) (hj : j < 12) (hd : decode cc pc = .ok (.arraylength, 1)) (k : G K X nL (pc + 1) lo (.int (iI 7) :: st) (layC K (wS c j v))) : G K X nL pc lo (.ref (kad K (6 * j + 16)) :: st) (layC K (wS c j v)) :=
  r_alen (n := 7) O (by rw [hN]; omega) (lay_q K c j v 3 (by omega) (by decide) rfl : layC K (wS c j v) (6 * j + 16) = .inl (kI K, 7, .inl (aI (qhu v)))) (Or.inl rfl) rfl hd k
theorem s_arr_be {K : zK} {X : zX} {cc : ByteArray} {own : String} {ret : Option FieldType} {nL f pc : Nat} {lo : List (Nat × Value)} {st : List Value} {idx : Nat} {v : SV} {c : CS} {j : Nat} (O : zO K X cc own ret nL f) (hN : kN K = 85) (hj : j < 12) (hw : Cond.fieldLink own idx RX3 (TX3 3).2.1 (TX3 3).2.2.1 ∈ zTB) (hd : decode cc pc = .ok (.getfield idx, 3)) (k : G K X nL (pc + 3) lo (.ref (kad K (6 * j + 17)) :: st) (layC K (wS c j v))) : G K X nL pc lo (.ref (kad K (6 * j + 13)) :: st) (layC K (wS c j v)) :=
  r_get O (by rw [hN]; omega) (lay_q K c j v 0 (by omega) (by decide) rfl) zCl3 hw (by decide) rfl hd k
theorem s_ld_be {K : zK} {X : zX} {cc : ByteArray} {own : String} {ret : Option FieldType} {nL f pc : Nat} {lo : List (Nat × Value)} {st : List Value} {z : Int} {c : CS} {j : Nat} {n am he sa ro fa : Int} {kd sp hu be ea : Int → Int} (O : zO K X cc own ret nL f) (hN : kN K = 85) (hj : j < 12) (h0 : 0 ≤ z) (h1 : z < 7) (hd : decode cc pc = .ok (.iaload, 1)) (k : G K X nL (pc + 1) lo (.int (iI (be z)) :: st) (layC K (wS c j (n, am, he, sa, ro, fa, kd, sp, hu, be, ea)))) : G K X nL pc lo (.int (iI z) :: .ref (kad K (6 * j + 17)) :: st) (layC K (wS c j (n, am, he, sa, ro, fa, kd, sp, hu, be, ea))) :=
  r_iald O (by rw [hN]; omega) (lay_q K c j (n, am, he, sa, ro, fa, kd, sp, hu, be, ea) 4 (by omega) (by decide) rfl : layC K (wS c j (n, am, he, sa, ro, fa, kd, sp, hu, be, ea)) (6 * j + 17) = .inl (kI K, 7, .inl (aI be))) h0 h1 (by decide) hd k
theorem s_st_be {K : zK} {X : zX} {cc : ByteArray} {own : String} {ret : Option FieldType} {nL f pc : Nat} {lo : List (Nat × Value)} {st : List Value} {z x : Int} {c : CS} {j : Nat} {n am he sa ro fa : Int} {kd sp hu be ea : Int → Int} (O : zO K X cc own ret nL f) (hN : kN K = 85) (hj : j < 12) (h0 : 0 ≤ z) (h1 : z < 7) (hd : decode cc pc = .ok (.iastore, 1)) (k : G K X nL (pc + 1) lo st (layC K (wS c j (n, am, he, sa, ro, fa, kd, sp, hu, uI be z x, ea)))) : G K X nL pc lo (.int (iI x) :: .int (iI z) :: .ref (kad K (6 * j + 17)) :: st) (layC K (wS c j (n, am, he, sa, ro, fa, kd, sp, hu, be, ea))) := by
  refine r_iast O (by rw [hN]; omega) (lay_q K c j (n, am, he, sa, ro, fa, kd, sp, hu, be, ea) 4 (by omega) (by decide) rfl : layC K (wS c j (n, am, he, sa, ro, fa, kd, sp, hu, be, ea)) (6 * j + 17) = .inl (kI K, 7, .inl (aI be))) h0 h1 (by decide) hd ?_
  exact G_ct (lay_up K c j (n, am, he, sa, ro, fa, kd, sp, hu, be, ea) (n, am, he, sa, ro, fa, kd, sp, hu, uI be z x, ea) 4 (by omega) (by decide) _ rfl (six (fun _ => by simp only [sitE, qn, qam, qhe, qsa, qro, qfa, qkd, qsp, qhu, qbe, qea]) (fun _ => by simp only [sitE, qn, qam, qhe, qsa, qro, qfa, qkd, qsp, qhu, qbe, qea]) (fun _ => by simp only [sitE, qn, qam, qhe, qsa, qro, qfa, qkd, qsp, qhu, qbe, qea]) (fun _ => by simp only [sitE, qn, qam, qhe, qsa, qro, qfa, qkd, qsp, qhu, qbe, qea]) (fun h => absurd rfl h) (fun _ => by simp only [sitE, qn, qam, qhe, qsa, qro, qfa, qkd, qsp, qhu, qbe, qea]))) k
theorem s_len_be {K : zK} {X : zX} {cc : ByteArray} {own : String} {ret : Option FieldType} {nL f pc : Nat} {lo : List (Nat × Value)} {st : List Value} {v : SV} {c : CS} {j : Nat} (O : zO K X cc own ret nL f) (hN : kN K = 85) (hj : j < 12) (hd : decode cc pc = .ok (.arraylength, 1)) (k : G K X nL (pc + 1) lo (.int (iI 7) :: st) (layC K (wS c j v))) : G K X nL pc lo (.ref (kad K (6 * j + 17)) :: st) (layC K (wS c j v)) :=
  r_alen (n := 7) O (by rw [hN]; omega) (lay_q K c j v 4 (by omega) (by decide) rfl : layC K (wS c j v) (6 * j + 17) = .inl (kI K, 7, .inl (aI (qbe v)))) (Or.inl rfl) rfl hd k
theorem s_arr_ea {K : zK} {X : zX} {cc : ByteArray} {own : String} {ret : Option FieldType} {nL f pc : Nat} {lo : List (Nat × Value)} {st : List Value} {idx : Nat} {v : SV} {c : CS} {j : Nat} (O : zO K X cc own ret nL f) (hN : kN K = 85) (hj : j < 12) (hw : Cond.fieldLink own idx RX3 (TX3 4).2.1 (TX3 4).2.2.1 ∈ zTB) (hd : decode cc pc = .ok (.getfield idx, 3)) (k : G K X nL (pc + 3) lo (.ref (kad K (6 * j + 18)) :: st) (layC K (wS c j v))) : G K X nL pc lo (.ref (kad K (6 * j + 13)) :: st) (layC K (wS c j v)) :=
  r_get O (by rw [hN]; omega) (lay_q K c j v 0 (by omega) (by decide) rfl) zCl3 hw (by decide) rfl hd k
theorem s_ld_ea {K : zK} {X : zX} {cc : ByteArray} {own : String} {ret : Option FieldType} {nL f pc : Nat} {lo : List (Nat × Value)} {st : List Value} {z : Int} {c : CS} {j : Nat} {n am he sa ro fa : Int} {kd sp hu be ea : Int → Int} (O : zO K X cc own ret nL f) (hN : kN K = 85) (hj : j < 12) (h0 : 0 ≤ z) (h1 : z < 7) (hd : decode cc pc = .ok (.iaload, 1)) (k : G K X nL (pc + 1) lo (.int (iI (ea z)) :: st) (layC K (wS c j (n, am, he, sa, ro, fa, kd, sp, hu, be, ea)))) : G K X nL pc lo (.int (iI z) :: .ref (kad K (6 * j + 18)) :: st) (layC K (wS c j (n, am, he, sa, ro, fa, kd, sp, hu, be, ea))) :=
  r_iald O (by rw [hN]; omega) (lay_q K c j (n, am, he, sa, ro, fa, kd, sp, hu, be, ea) 5 (by omega) (by decide) rfl : layC K (wS c j (n, am, he, sa, ro, fa, kd, sp, hu, be, ea)) (6 * j + 18) = .inl (kI K, 7, .inl (aI ea))) h0 h1 (by decide) hd k
theorem s_st_ea {K : zK} {X : zX} {cc : ByteArray} {own : String} {ret : Option FieldType} {nL f pc : Nat} {lo : List (Nat × Value)} {st : List Value} {z x : Int} {c : CS} {j : Nat} {n am he sa ro fa : Int} {kd sp hu be ea : Int → Int} (O : zO K X cc own ret nL f) (hN : kN K = 85) (hj : j < 12) (h0 : 0 ≤ z) (h1 : z < 7) (hd : decode cc pc = .ok (.iastore, 1)) (k : G K X nL (pc + 1) lo st (layC K (wS c j (n, am, he, sa, ro, fa, kd, sp, hu, be, uI ea z x)))) : G K X nL pc lo (.int (iI x) :: .int (iI z) :: .ref (kad K (6 * j + 18)) :: st) (layC K (wS c j (n, am, he, sa, ro, fa, kd, sp, hu, be, ea))) := by
  refine r_iast O (by rw [hN]; omega) (lay_q K c j (n, am, he, sa, ro, fa, kd, sp, hu, be, ea) 5 (by omega) (by decide) rfl : layC K (wS c j (n, am, he, sa, ro, fa, kd, sp, hu, be, ea)) (6 * j + 18) = .inl (kI K, 7, .inl (aI ea))) h0 h1 (by decide) hd ?_
  exact G_ct (lay_up K c j (n, am, he, sa, ro, fa, kd, sp, hu, be, ea) (n, am, he, sa, ro, fa, kd, sp, hu, be, uI ea z x) 5 (by omega) (by decide) _ rfl (six (fun _ => by simp only [sitE, qn, qam, qhe, qsa, qro, qfa, qkd, qsp, qhu, qbe, qea]) (fun _ => by simp only [sitE, qn, qam, qhe, qsa, qro, qfa, qkd, qsp, qhu, qbe, qea]) (fun _ => by simp only [sitE, qn, qam, qhe, qsa, qro, qfa, qkd, qsp, qhu, qbe, qea]) (fun _ => by simp only [sitE, qn, qam, qhe, qsa, qro, qfa, qkd, qsp, qhu, qbe, qea]) (fun _ => by simp only [sitE, qn, qam, qhe, qsa, qro, qfa, qkd, qsp, qhu, qbe, qea]) (fun h => absurd rfl h))) k
theorem s_len_ea {K : zK} {X : zX} {cc : ByteArray} {own : String} {ret : Option FieldType} {nL f pc : Nat} {lo : List (Nat × Value)} {st : List Value} {v : SV} {c : CS} {j : Nat} (O : zO K X cc own ret nL f) (hN : kN K = 85) (hj : j < 12) (hd : decode cc pc = .ok (.arraylength, 1)) (k : G K X nL (pc + 1) lo (.int (iI 7) :: st) (layC K (wS c j v))) : G K X nL pc lo (.ref (kad K (6 * j + 18)) :: st) (layC K (wS c j v)) :=
  r_alen (n := 7) O (by rw [hN]; omega) (lay_q K c j v 5 (by omega) (by decide) rfl : layC K (wS c j v) (6 * j + 18) = .inl (kI K, 7, .inl (aI (qea v)))) (Or.inl rfl) rfl hd k
theorem t_get_n {K : zK} {X : zX} {cc : ByteArray} {own : String} {ret : Option FieldType} {nL f pc : Nat} {lo : List (Nat × Value)} {st : List Value} {idx : Nat} {c : CS} {j : Nat} (O : zO K X cc own ret nL f) (hN : kN K = 85) (hj : j < 12) (hw : Cond.fieldLink own idx RX3 (TX3 5).2.1 (TX3 5).2.2.1 ∈ zTB) (hd : decode cc pc = .ok (.getfield idx, 3)) (k : G K X nL (pc + 3) lo (.int (iI (qn (c.1 j))) :: st) (layC K c)) : G K X nL pc lo (.ref (kad K (6 * j + 13)) :: st) (layC K c) :=
  r_get O (by rw [hN]; omega) (lay_j0 K c j) zCl3 hw (by decide) rfl hd k
theorem v_get_n {K : zK} {X : zX} {cc : ByteArray} {own : String} {ret : Option FieldType} {nL f pc : Nat} {lo : List (Nat × Value)} {st : List Value} {idx : Nat} {c : CS} {j : Nat} {v : SV} (O : zO K X cc own ret nL f) (hN : kN K = 85) (hj : j < 12) (hw : Cond.fieldLink own idx RX3 (TX3 5).2.1 (TX3 5).2.2.1 ∈ zTB) (hd : decode cc pc = .ok (.getfield idx, 3)) (k : G K X nL (pc + 3) lo (.int (iI (qn v)) :: st) (layC K (wS c j v))) : G K X nL pc lo (.ref (kad K (6 * j + 13)) :: st) (layC K (wS c j v)) := by
  refine t_get_n O hN hj hw hd ?_
  rw [wS_s]
  exact k
theorem o_get_n {K : zK} {X : zX} {cc : ByteArray} {own : String} {ret : Option FieldType} {nL f pc : Nat} {lo : List (Nat × Value)} {st : List Value} {idx : Nat} {c : CS} {j i : Nat} {v u : SV} (O : zO K X cc own ret nL f) (hN : kN K = 85) (hi : i < 12) (hne : i ≠ j) (hcu : c.1 i = u) (hw : Cond.fieldLink own idx RX3 (TX3 5).2.1 (TX3 5).2.2.1 ∈ zTB) (hd : decode cc pc = .ok (.getfield idx, 3)) (k : G K X nL (pc + 3) lo (.int (iI (qn u)) :: st) (layC K (wS c j v))) : G K X nL pc lo (.ref (kad K (6 * i + 13)) :: st) (layC K (wS c j v)) := by
  refine t_get_n O hN hi hw hd ?_
  rw [wS_n c v hne, hcu]
  exact k
theorem t_get_am {K : zK} {X : zX} {cc : ByteArray} {own : String} {ret : Option FieldType} {nL f pc : Nat} {lo : List (Nat × Value)} {st : List Value} {idx : Nat} {c : CS} {j : Nat} (O : zO K X cc own ret nL f) (hN : kN K = 85) (hj : j < 12) (hw : Cond.fieldLink own idx RX3 (TX3 6).2.1 (TX3 6).2.2.1 ∈ zTB) (hd : decode cc pc = .ok (.getfield idx, 3)) (k : G K X nL (pc + 3) lo (.int (iI (qam (c.1 j))) :: st) (layC K c)) : G K X nL pc lo (.ref (kad K (6 * j + 13)) :: st) (layC K c) :=
  r_get O (by rw [hN]; omega) (lay_j0 K c j) zCl3 hw (by decide) rfl hd k
theorem v_get_am {K : zK} {X : zX} {cc : ByteArray} {own : String} {ret : Option FieldType} {nL f pc : Nat} {lo : List (Nat × Value)} {st : List Value} {idx : Nat} {c : CS} {j : Nat} {v : SV} (O : zO K X cc own ret nL f) (hN : kN K = 85) (hj : j < 12) (hw : Cond.fieldLink own idx RX3 (TX3 6).2.1 (TX3 6).2.2.1 ∈ zTB) (hd : decode cc pc = .ok (.getfield idx, 3)) (k : G K X nL (pc + 3) lo (.int (iI (qam v)) :: st) (layC K (wS c j v))) : G K X nL pc lo (.ref (kad K (6 * j + 13)) :: st) (layC K (wS c j v)) := by
  refine t_get_am O hN hj hw hd ?_
  rw [wS_s]
  exact k
theorem o_get_am {K : zK} {X : zX} {cc : ByteArray} {own : String} {ret : Option FieldType} {nL f pc : Nat} {lo : List (Nat × Value)} {st : List Value} {idx : Nat} {c : CS} {j i : Nat} {v u : SV} (O : zO K X cc own ret nL f) (hN : kN K = 85) (hi : i < 12) (hne : i ≠ j) (hcu : c.1 i = u) (hw : Cond.fieldLink own idx RX3 (TX3 6).2.1 (TX3 6).2.2.1 ∈ zTB) (hd : decode cc pc = .ok (.getfield idx, 3)) (k : G K X nL (pc + 3) lo (.int (iI (qam u)) :: st) (layC K (wS c j v))) : G K X nL pc lo (.ref (kad K (6 * i + 13)) :: st) (layC K (wS c j v)) := by
  refine t_get_am O hN hi hw hd ?_
  rw [wS_n c v hne, hcu]
  exact k
theorem t_get_he {K : zK} {X : zX} {cc : ByteArray} {own : String} {ret : Option FieldType} {nL f pc : Nat} {lo : List (Nat × Value)} {st : List Value} {idx : Nat} {c : CS} {j : Nat} (O : zO K X cc own ret nL f) (hN : kN K = 85) (hj : j < 12) (hw : Cond.fieldLink own idx RX3 (TX3 7).2.1 (TX3 7).2.2.1 ∈ zTB) (hd : decode cc pc = .ok (.getfield idx, 3)) (k : G K X nL (pc + 3) lo (.int (iI (qhe (c.1 j))) :: st) (layC K c)) : G K X nL pc lo (.ref (kad K (6 * j + 13)) :: st) (layC K c) :=
  r_get O (by rw [hN]; omega) (lay_j0 K c j) zCl3 hw (by decide) rfl hd k
theorem v_get_he {K : zK} {X : zX} {cc : ByteArray} {own : String} {ret : Option FieldType} {nL f pc : Nat} {lo : List (Nat × Value)} {st : List Value} {idx : Nat} {c : CS} {j : Nat} {v : SV} (O : zO K X cc own ret nL f) (hN : kN K = 85) (hj : j < 12) (hw : Cond.fieldLink own idx RX3 (TX3 7).2.1 (TX3 7).2.2.1 ∈ zTB) (hd : decode cc pc = .ok (.getfield idx, 3)) (k : G K X nL (pc + 3) lo (.int (iI (qhe v)) :: st) (layC K (wS c j v))) : G K X nL pc lo (.ref (kad K (6 * j + 13)) :: st) (layC K (wS c j v)) := by
  refine t_get_he O hN hj hw hd ?_
  rw [wS_s]
  exact k
theorem o_get_he {K : zK} {X : zX} {cc : ByteArray} {own : String} {ret : Option FieldType} {nL f pc : Nat} {lo : List (Nat × Value)} {st : List Value} {idx : Nat} {c : CS} {j i : Nat} {v u : SV} (O : zO K X cc own ret nL f) (hN : kN K = 85) (hi : i < 12) (hne : i ≠ j) (hcu : c.1 i = u) (hw : Cond.fieldLink own idx RX3 (TX3 7).2.1 (TX3 7).2.2.1 ∈ zTB) (hd : decode cc pc = .ok (.getfield idx, 3)) (k : G K X nL (pc + 3) lo (.int (iI (qhe u)) :: st) (layC K (wS c j v))) : G K X nL pc lo (.ref (kad K (6 * i + 13)) :: st) (layC K (wS c j v)) := by
  refine t_get_he O hN hi hw hd ?_
  rw [wS_n c v hne, hcu]
  exact k
theorem t_get_sa {K : zK} {X : zX} {cc : ByteArray} {own : String} {ret : Option FieldType} {nL f pc : Nat} {lo : List (Nat × Value)} {st : List Value} {idx : Nat} {c : CS} {j : Nat} (O : zO K X cc own ret nL f) (hN : kN K = 85) (hj : j < 12) (hw : Cond.fieldLink own idx RX3 (TX3 8).2.1 (TX3 8).2.2.1 ∈ zTB) (hd : decode cc pc = .ok (.getfield idx, 3)) (k : G K X nL (pc + 3) lo (.int (iI (qsa (c.1 j))) :: st) (layC K c)) : G K X nL pc lo (.ref (kad K (6 * j + 13)) :: st) (layC K c) :=
  r_get O (by rw [hN]; omega) (lay_j0 K c j) zCl3 hw (by decide) rfl hd k
theorem v_get_sa {K : zK} {X : zX} {cc : ByteArray} {own : String} {ret : Option FieldType} {nL f pc : Nat} {lo : List (Nat × Value)} {st : List Value} {idx : Nat} {c : CS} {j : Nat} {v : SV} (O : zO K X cc own ret nL f) (hN : kN K = 85) (hj : j < 12) (hw : Cond.fieldLink own idx RX3 (TX3 8).2.1 (TX3 8).2.2.1 ∈ zTB) (hd : decode cc pc = .ok (.getfield idx, 3)) (k : G K X nL (pc + 3) lo (.int (iI (qsa v)) :: st) (layC K (wS c j v))) : G K X nL pc lo (.ref (kad K (6 * j + 13)) :: st) (layC K (wS c j v)) := by
  refine t_get_sa O hN hj hw hd ?_
  rw [wS_s]
  exact k
theorem o_get_sa {K : zK} {X : zX} {cc : ByteArray} {own : String} {ret : Option FieldType} {nL f pc : Nat} {lo : List (Nat × Value)} {st : List Value} {idx : Nat} {c : CS} {j i : Nat} {v u : SV} (O : zO K X cc own ret nL f) (hN : kN K = 85) (hi : i < 12) (hne : i ≠ j) (hcu : c.1 i = u) (hw : Cond.fieldLink own idx RX3 (TX3 8).2.1 (TX3 8).2.2.1 ∈ zTB) (hd : decode cc pc = .ok (.getfield idx, 3)) (k : G K X nL (pc + 3) lo (.int (iI (qsa u)) :: st) (layC K (wS c j v))) : G K X nL pc lo (.ref (kad K (6 * i + 13)) :: st) (layC K (wS c j v)) := by
  refine t_get_sa O hN hi hw hd ?_
  rw [wS_n c v hne, hcu]
  exact k
theorem t_get_ro {K : zK} {X : zX} {cc : ByteArray} {own : String} {ret : Option FieldType} {nL f pc : Nat} {lo : List (Nat × Value)} {st : List Value} {idx : Nat} {c : CS} {j : Nat} (O : zO K X cc own ret nL f) (hN : kN K = 85) (hj : j < 12) (hw : Cond.fieldLink own idx RX3 (TX3 9).2.1 (TX3 9).2.2.1 ∈ zTB) (hd : decode cc pc = .ok (.getfield idx, 3)) (k : G K X nL (pc + 3) lo (.int (iI (qro (c.1 j))) :: st) (layC K c)) : G K X nL pc lo (.ref (kad K (6 * j + 13)) :: st) (layC K c) :=
  r_get O (by rw [hN]; omega) (lay_j0 K c j) zCl3 hw (by decide) rfl hd k
theorem v_get_ro {K : zK} {X : zX} {cc : ByteArray} {own : String} {ret : Option FieldType} {nL f pc : Nat} {lo : List (Nat × Value)} {st : List Value} {idx : Nat} {c : CS} {j : Nat} {v : SV} (O : zO K X cc own ret nL f) (hN : kN K = 85) (hj : j < 12) (hw : Cond.fieldLink own idx RX3 (TX3 9).2.1 (TX3 9).2.2.1 ∈ zTB) (hd : decode cc pc = .ok (.getfield idx, 3)) (k : G K X nL (pc + 3) lo (.int (iI (qro v)) :: st) (layC K (wS c j v))) : G K X nL pc lo (.ref (kad K (6 * j + 13)) :: st) (layC K (wS c j v)) := by
  refine t_get_ro O hN hj hw hd ?_
  rw [wS_s]
  exact k
theorem o_get_ro {K : zK} {X : zX} {cc : ByteArray} {own : String} {ret : Option FieldType} {nL f pc : Nat} {lo : List (Nat × Value)} {st : List Value} {idx : Nat} {c : CS} {j i : Nat} {v u : SV} (O : zO K X cc own ret nL f) (hN : kN K = 85) (hi : i < 12) (hne : i ≠ j) (hcu : c.1 i = u) (hw : Cond.fieldLink own idx RX3 (TX3 9).2.1 (TX3 9).2.2.1 ∈ zTB) (hd : decode cc pc = .ok (.getfield idx, 3)) (k : G K X nL (pc + 3) lo (.int (iI (qro u)) :: st) (layC K (wS c j v))) : G K X nL pc lo (.ref (kad K (6 * i + 13)) :: st) (layC K (wS c j v)) := by
  refine t_get_ro O hN hi hw hd ?_
  rw [wS_n c v hne, hcu]
  exact k
theorem t_get_fa {K : zK} {X : zX} {cc : ByteArray} {own : String} {ret : Option FieldType} {nL f pc : Nat} {lo : List (Nat × Value)} {st : List Value} {idx : Nat} {c : CS} {j : Nat} (O : zO K X cc own ret nL f) (hN : kN K = 85) (hj : j < 12) (hw : Cond.fieldLink own idx RX3 (TX3 10).2.1 (TX3 10).2.2.1 ∈ zTB) (hd : decode cc pc = .ok (.getfield idx, 3)) (k : G K X nL (pc + 3) lo (.int (iI (qfa (c.1 j))) :: st) (layC K c)) : G K X nL pc lo (.ref (kad K (6 * j + 13)) :: st) (layC K c) :=
  r_get O (by rw [hN]; omega) (lay_j0 K c j) zCl3 hw (by decide) rfl hd k
theorem v_get_fa {K : zK} {X : zX} {cc : ByteArray} {own : String} {ret : Option FieldType} {nL f pc : Nat} {lo : List (Nat × Value)} {st : List Value} {idx : Nat} {c : CS} {j : Nat} {v : SV} (O : zO K X cc own ret nL f) (hN : kN K = 85) (hj : j < 12) (hw : Cond.fieldLink own idx RX3 (TX3 10).2.1 (TX3 10).2.2.1 ∈ zTB) (hd : decode cc pc = .ok (.getfield idx, 3)) (k : G K X nL (pc + 3) lo (.int (iI (qfa v)) :: st) (layC K (wS c j v))) : G K X nL pc lo (.ref (kad K (6 * j + 13)) :: st) (layC K (wS c j v)) := by
  refine t_get_fa O hN hj hw hd ?_
  rw [wS_s]
  exact k
theorem o_get_fa {K : zK} {X : zX} {cc : ByteArray} {own : String} {ret : Option FieldType} {nL f pc : Nat} {lo : List (Nat × Value)} {st : List Value} {idx : Nat} {c : CS} {j i : Nat} {v u : SV} (O : zO K X cc own ret nL f) (hN : kN K = 85) (hi : i < 12) (hne : i ≠ j) (hcu : c.1 i = u) (hw : Cond.fieldLink own idx RX3 (TX3 10).2.1 (TX3 10).2.2.1 ∈ zTB) (hd : decode cc pc = .ok (.getfield idx, 3)) (k : G K X nL (pc + 3) lo (.int (iI (qfa u)) :: st) (layC K (wS c j v))) : G K X nL pc lo (.ref (kad K (6 * i + 13)) :: st) (layC K (wS c j v)) := by
  refine t_get_fa O hN hi hw hd ?_
  rw [wS_n c v hne, hcu]
  exact k
theorem t_arr_kd {K : zK} {X : zX} {cc : ByteArray} {own : String} {ret : Option FieldType} {nL f pc : Nat} {lo : List (Nat × Value)} {st : List Value} {idx : Nat} {c : CS} {j : Nat} (O : zO K X cc own ret nL f) (hN : kN K = 85) (hj : j < 12) (hw : Cond.fieldLink own idx RX3 (TX3 0).2.1 (TX3 0).2.2.1 ∈ zTB) (hd : decode cc pc = .ok (.getfield idx, 3)) (k : G K X nL (pc + 3) lo (.ref (kad K (6 * j + 14)) :: st) (layC K c)) : G K X nL pc lo (.ref (kad K (6 * j + 13)) :: st) (layC K c) :=
  r_get O (by rw [hN]; omega) (lay_j0 K c j) zCl3 hw (by decide) rfl hd k
theorem t_ld_kd {K : zK} {X : zX} {cc : ByteArray} {own : String} {ret : Option FieldType} {nL f pc : Nat} {lo : List (Nat × Value)} {st : List Value} {z : Int} {c : CS} {j : Nat} (O : zO K X cc own ret nL f) (hN : kN K = 85) (hj : j < 12) (h0 : 0 ≤ z) (h1 : z < 7) (hd : decode cc pc = .ok (.iaload, 1)) (k : G K X nL (pc + 1) lo (.int (iI (qkd (c.1 j) z)) :: st) (layC K c)) : G K X nL pc lo (.int (iI z) :: .ref (kad K (6 * j + 14)) :: st) (layC K c) :=
  r_iald O (by rw [hN]; omega) (lay_qj K c j 1 (by omega) (by decide) rfl : layC K c (6 * j + 14) = .inl (kI K, 7, .inl (aI (qkd (c.1 j))))) h0 h1 (by decide) hd k
theorem o_copy_kd {K : zK} {X : zX} {cc : ByteArray} {own : String} {ret : Option FieldType} {nL f pc : Nat} {lo : List (Nat × Value)} {st : List Value} {idx : Nat} {c : CS} {j i : Nat} {u : SV} {n am he sa ro fa : Int} {kd sp hu be ea : Int → Int} (O : zO K X cc own ret nL f) (hN : kN K = 85) (hj : j < 12) (hi : i < 12) (hne : i ≠ j) (hcu : c.1 i = u) (hw : zCopy own idx) (hf : 1 ≤ f) (hs : (st.map fun v => v.category).sum ≤ 5) (hd : decode cc pc = .ok (.invokestatic idx, 3)) (k : G K X nL (pc + 3) lo st (layC K (wS c j (n, am, he, sa, ro, fa, cpI (qkd u) kd 7, sp, hu, be, ea)))) : G K X nL pc lo (.int (iI 7) :: .int (iI 0) :: .ref (kad K (6 * j + 14)) :: .int (iI 0) :: .ref (kad K (6 * i + 14)) :: st) (layC K (wS c j (n, am, he, sa, ro, fa, kd, sp, hu, be, ea))) := by
  refine r_copy O hw hf hs (by rw [hN]; omega) (by rw [hN]; omega) (lay_qj K _ i 1 (by omega) (by decide) (by rw [wS_n c _ hne, hcu]; rfl) : layC K (wS c j (n, am, he, sa, ro, fa, kd, sp, hu, be, ea)) (6 * i + 14) = .inl (kI K, 7, .inl (aI (qkd u)))) (lay_q K c j (n, am, he, sa, ro, fa, kd, sp, hu, be, ea) 1 (by omega) (by decide) rfl : layC K (wS c j (n, am, he, sa, ro, fa, kd, sp, hu, be, ea)) (6 * j + 14) = .inl (kI K, 7, .inl (aI kd))) (by decide) (by decide) (by decide) (by decide) hd ?_
  exact G_ct (lay_up K c j (n, am, he, sa, ro, fa, kd, sp, hu, be, ea) (n, am, he, sa, ro, fa, cpI (qkd u) kd 7, sp, hu, be, ea) 1 (by omega) (by decide) _ rfl (six (fun _ => by simp only [sitE, qn, qam, qhe, qsa, qro, qfa, qkd, qsp, qhu, qbe, qea]) (fun h => absurd rfl h) (fun _ => by simp only [sitE, qn, qam, qhe, qsa, qro, qfa, qkd, qsp, qhu, qbe, qea]) (fun _ => by simp only [sitE, qn, qam, qhe, qsa, qro, qfa, qkd, qsp, qhu, qbe, qea]) (fun _ => by simp only [sitE, qn, qam, qhe, qsa, qro, qfa, qkd, qsp, qhu, qbe, qea]) (fun _ => by simp only [sitE, qn, qam, qhe, qsa, qro, qfa, qkd, qsp, qhu, qbe, qea]))) k
theorem t_arr_sp {K : zK} {X : zX} {cc : ByteArray} {own : String} {ret : Option FieldType} {nL f pc : Nat} {lo : List (Nat × Value)} {st : List Value} {idx : Nat} {c : CS} {j : Nat} (O : zO K X cc own ret nL f) (hN : kN K = 85) (hj : j < 12) (hw : Cond.fieldLink own idx RX3 (TX3 1).2.1 (TX3 1).2.2.1 ∈ zTB) (hd : decode cc pc = .ok (.getfield idx, 3)) (k : G K X nL (pc + 3) lo (.ref (kad K (6 * j + 15)) :: st) (layC K c)) : G K X nL pc lo (.ref (kad K (6 * j + 13)) :: st) (layC K c) :=
  r_get O (by rw [hN]; omega) (lay_j0 K c j) zCl3 hw (by decide) rfl hd k
theorem t_ld_sp {K : zK} {X : zX} {cc : ByteArray} {own : String} {ret : Option FieldType} {nL f pc : Nat} {lo : List (Nat × Value)} {st : List Value} {z : Int} {c : CS} {j : Nat} (O : zO K X cc own ret nL f) (hN : kN K = 85) (hj : j < 12) (h0 : 0 ≤ z) (h1 : z < 7) (hd : decode cc pc = .ok (.iaload, 1)) (k : G K X nL (pc + 1) lo (.int (iI (qsp (c.1 j) z)) :: st) (layC K c)) : G K X nL pc lo (.int (iI z) :: .ref (kad K (6 * j + 15)) :: st) (layC K c) :=
  r_iald O (by rw [hN]; omega) (lay_qj K c j 2 (by omega) (by decide) rfl : layC K c (6 * j + 15) = .inl (kI K, 7, .inl (aI (qsp (c.1 j))))) h0 h1 (by decide) hd k
theorem o_copy_sp {K : zK} {X : zX} {cc : ByteArray} {own : String} {ret : Option FieldType} {nL f pc : Nat} {lo : List (Nat × Value)} {st : List Value} {idx : Nat} {c : CS} {j i : Nat} {u : SV} {n am he sa ro fa : Int} {kd sp hu be ea : Int → Int} (O : zO K X cc own ret nL f) (hN : kN K = 85) (hj : j < 12) (hi : i < 12) (hne : i ≠ j) (hcu : c.1 i = u) (hw : zCopy own idx) (hf : 1 ≤ f) (hs : (st.map fun v => v.category).sum ≤ 5) (hd : decode cc pc = .ok (.invokestatic idx, 3)) (k : G K X nL (pc + 3) lo st (layC K (wS c j (n, am, he, sa, ro, fa, kd, cpI (qsp u) sp 7, hu, be, ea)))) : G K X nL pc lo (.int (iI 7) :: .int (iI 0) :: .ref (kad K (6 * j + 15)) :: .int (iI 0) :: .ref (kad K (6 * i + 15)) :: st) (layC K (wS c j (n, am, he, sa, ro, fa, kd, sp, hu, be, ea))) := by
  refine r_copy O hw hf hs (by rw [hN]; omega) (by rw [hN]; omega) (lay_qj K _ i 2 (by omega) (by decide) (by rw [wS_n c _ hne, hcu]; rfl) : layC K (wS c j (n, am, he, sa, ro, fa, kd, sp, hu, be, ea)) (6 * i + 15) = .inl (kI K, 7, .inl (aI (qsp u)))) (lay_q K c j (n, am, he, sa, ro, fa, kd, sp, hu, be, ea) 2 (by omega) (by decide) rfl : layC K (wS c j (n, am, he, sa, ro, fa, kd, sp, hu, be, ea)) (6 * j + 15) = .inl (kI K, 7, .inl (aI sp))) (by decide) (by decide) (by decide) (by decide) hd ?_
  exact G_ct (lay_up K c j (n, am, he, sa, ro, fa, kd, sp, hu, be, ea) (n, am, he, sa, ro, fa, kd, cpI (qsp u) sp 7, hu, be, ea) 2 (by omega) (by decide) _ rfl (six (fun _ => by simp only [sitE, qn, qam, qhe, qsa, qro, qfa, qkd, qsp, qhu, qbe, qea]) (fun _ => by simp only [sitE, qn, qam, qhe, qsa, qro, qfa, qkd, qsp, qhu, qbe, qea]) (fun h => absurd rfl h) (fun _ => by simp only [sitE, qn, qam, qhe, qsa, qro, qfa, qkd, qsp, qhu, qbe, qea]) (fun _ => by simp only [sitE, qn, qam, qhe, qsa, qro, qfa, qkd, qsp, qhu, qbe, qea]) (fun _ => by simp only [sitE, qn, qam, qhe, qsa, qro, qfa, qkd, qsp, qhu, qbe, qea]))) k
theorem t_arr_hu {K : zK} {X : zX} {cc : ByteArray} {own : String} {ret : Option FieldType} {nL f pc : Nat} {lo : List (Nat × Value)} {st : List Value} {idx : Nat} {c : CS} {j : Nat} (O : zO K X cc own ret nL f) (hN : kN K = 85) (hj : j < 12) (hw : Cond.fieldLink own idx RX3 (TX3 2).2.1 (TX3 2).2.2.1 ∈ zTB) (hd : decode cc pc = .ok (.getfield idx, 3)) (k : G K X nL (pc + 3) lo (.ref (kad K (6 * j + 16)) :: st) (layC K c)) : G K X nL pc lo (.ref (kad K (6 * j + 13)) :: st) (layC K c) :=
  r_get O (by rw [hN]; omega) (lay_j0 K c j) zCl3 hw (by decide) rfl hd k
theorem t_ld_hu {K : zK} {X : zX} {cc : ByteArray} {own : String} {ret : Option FieldType} {nL f pc : Nat} {lo : List (Nat × Value)} {st : List Value} {z : Int} {c : CS} {j : Nat} (O : zO K X cc own ret nL f) (hN : kN K = 85) (hj : j < 12) (h0 : 0 ≤ z) (h1 : z < 7) (hd : decode cc pc = .ok (.iaload, 1)) (k : G K X nL (pc + 1) lo (.int (iI (qhu (c.1 j) z)) :: st) (layC K c)) : G K X nL pc lo (.int (iI z) :: .ref (kad K (6 * j + 16)) :: st) (layC K c) :=
  r_iald O (by rw [hN]; omega) (lay_qj K c j 3 (by omega) (by decide) rfl : layC K c (6 * j + 16) = .inl (kI K, 7, .inl (aI (qhu (c.1 j))))) h0 h1 (by decide) hd k
theorem o_copy_hu {K : zK} {X : zX} {cc : ByteArray} {own : String} {ret : Option FieldType} {nL f pc : Nat} {lo : List (Nat × Value)} {st : List Value} {idx : Nat} {c : CS} {j i : Nat} {u : SV} {n am he sa ro fa : Int} {kd sp hu be ea : Int → Int} (O : zO K X cc own ret nL f) (hN : kN K = 85) (hj : j < 12) (hi : i < 12) (hne : i ≠ j) (hcu : c.1 i = u) (hw : zCopy own idx) (hf : 1 ≤ f) (hs : (st.map fun v => v.category).sum ≤ 5) (hd : decode cc pc = .ok (.invokestatic idx, 3)) (k : G K X nL (pc + 3) lo st (layC K (wS c j (n, am, he, sa, ro, fa, kd, sp, cpI (qhu u) hu 7, be, ea)))) : G K X nL pc lo (.int (iI 7) :: .int (iI 0) :: .ref (kad K (6 * j + 16)) :: .int (iI 0) :: .ref (kad K (6 * i + 16)) :: st) (layC K (wS c j (n, am, he, sa, ro, fa, kd, sp, hu, be, ea))) := by
  refine r_copy O hw hf hs (by rw [hN]; omega) (by rw [hN]; omega) (lay_qj K _ i 3 (by omega) (by decide) (by rw [wS_n c _ hne, hcu]; rfl) : layC K (wS c j (n, am, he, sa, ro, fa, kd, sp, hu, be, ea)) (6 * i + 16) = .inl (kI K, 7, .inl (aI (qhu u)))) (lay_q K c j (n, am, he, sa, ro, fa, kd, sp, hu, be, ea) 3 (by omega) (by decide) rfl : layC K (wS c j (n, am, he, sa, ro, fa, kd, sp, hu, be, ea)) (6 * j + 16) = .inl (kI K, 7, .inl (aI hu))) (by decide) (by decide) (by decide) (by decide) hd ?_
  exact G_ct (lay_up K c j (n, am, he, sa, ro, fa, kd, sp, hu, be, ea) (n, am, he, sa, ro, fa, kd, sp, cpI (qhu u) hu 7, be, ea) 3 (by omega) (by decide) _ rfl (six (fun _ => by simp only [sitE, qn, qam, qhe, qsa, qro, qfa, qkd, qsp, qhu, qbe, qea]) (fun _ => by simp only [sitE, qn, qam, qhe, qsa, qro, qfa, qkd, qsp, qhu, qbe, qea]) (fun _ => by simp only [sitE, qn, qam, qhe, qsa, qro, qfa, qkd, qsp, qhu, qbe, qea]) (fun h => absurd rfl h) (fun _ => by simp only [sitE, qn, qam, qhe, qsa, qro, qfa, qkd, qsp, qhu, qbe, qea]) (fun _ => by simp only [sitE, qn, qam, qhe, qsa, qro, qfa, qkd, qsp, qhu, qbe, qea]))) k
theorem t_arr_be {K : zK} {X : zX} {cc : ByteArray} {own : String} {ret : Option FieldType} {nL f pc : Nat} {lo : List (Nat × Value)} {st : List Value} {idx : Nat} {c : CS} {j : Nat} (O : zO K X cc own ret nL f) (hN : kN K = 85) (hj : j < 12) (hw : Cond.fieldLink own idx RX3 (TX3 3).2.1 (TX3 3).2.2.1 ∈ zTB) (hd : decode cc pc = .ok (.getfield idx, 3)) (k : G K X nL (pc + 3) lo (.ref (kad K (6 * j + 17)) :: st) (layC K c)) : G K X nL pc lo (.ref (kad K (6 * j + 13)) :: st) (layC K c) :=
  r_get O (by rw [hN]; omega) (lay_j0 K c j) zCl3 hw (by decide) rfl hd k
theorem t_ld_be {K : zK} {X : zX} {cc : ByteArray} {own : String} {ret : Option FieldType} {nL f pc : Nat} {lo : List (Nat × Value)} {st : List Value} {z : Int} {c : CS} {j : Nat} (O : zO K X cc own ret nL f) (hN : kN K = 85) (hj : j < 12) (h0 : 0 ≤ z) (h1 : z < 7) (hd : decode cc pc = .ok (.iaload, 1)) (k : G K X nL (pc + 1) lo (.int (iI (qbe (c.1 j) z)) :: st) (layC K c)) : G K X nL pc lo (.int (iI z) :: .ref (kad K (6 * j + 17)) :: st) (layC K c) :=
  r_iald O (by rw [hN]; omega) (lay_qj K c j 4 (by omega) (by decide) rfl : layC K c (6 * j + 17) = .inl (kI K, 7, .inl (aI (qbe (c.1 j))))) h0 h1 (by decide) hd k
theorem o_copy_be {K : zK} {X : zX} {cc : ByteArray} {own : String} {ret : Option FieldType} {nL f pc : Nat} {lo : List (Nat × Value)} {st : List Value} {idx : Nat} {c : CS} {j i : Nat} {u : SV} {n am he sa ro fa : Int} {kd sp hu be ea : Int → Int} (O : zO K X cc own ret nL f) (hN : kN K = 85) (hj : j < 12) (hi : i < 12) (hne : i ≠ j) (hcu : c.1 i = u) (hw : zCopy own idx) (hf : 1 ≤ f) (hs : (st.map fun v => v.category).sum ≤ 5) (hd : decode cc pc = .ok (.invokestatic idx, 3)) (k : G K X nL (pc + 3) lo st (layC K (wS c j (n, am, he, sa, ro, fa, kd, sp, hu, cpI (qbe u) be 7, ea)))) : G K X nL pc lo (.int (iI 7) :: .int (iI 0) :: .ref (kad K (6 * j + 17)) :: .int (iI 0) :: .ref (kad K (6 * i + 17)) :: st) (layC K (wS c j (n, am, he, sa, ro, fa, kd, sp, hu, be, ea))) := by
  refine r_copy O hw hf hs (by rw [hN]; omega) (by rw [hN]; omega) (lay_qj K _ i 4 (by omega) (by decide) (by rw [wS_n c _ hne, hcu]; rfl) : layC K (wS c j (n, am, he, sa, ro, fa, kd, sp, hu, be, ea)) (6 * i + 17) = .inl (kI K, 7, .inl (aI (qbe u)))) (lay_q K c j (n, am, he, sa, ro, fa, kd, sp, hu, be, ea) 4 (by omega) (by decide) rfl : layC K (wS c j (n, am, he, sa, ro, fa, kd, sp, hu, be, ea)) (6 * j + 17) = .inl (kI K, 7, .inl (aI be))) (by decide) (by decide) (by decide) (by decide) hd ?_
  exact G_ct (lay_up K c j (n, am, he, sa, ro, fa, kd, sp, hu, be, ea) (n, am, he, sa, ro, fa, kd, sp, hu, cpI (qbe u) be 7, ea) 4 (by omega) (by decide) _ rfl (six (fun _ => by simp only [sitE, qn, qam, qhe, qsa, qro, qfa, qkd, qsp, qhu, qbe, qea]) (fun _ => by simp only [sitE, qn, qam, qhe, qsa, qro, qfa, qkd, qsp, qhu, qbe, qea]) (fun _ => by simp only [sitE, qn, qam, qhe, qsa, qro, qfa, qkd, qsp, qhu, qbe, qea]) (fun _ => by simp only [sitE, qn, qam, qhe, qsa, qro, qfa, qkd, qsp, qhu, qbe, qea]) (fun h => absurd rfl h) (fun _ => by simp only [sitE, qn, qam, qhe, qsa, qro, qfa, qkd, qsp, qhu, qbe, qea]))) k
theorem t_arr_ea {K : zK} {X : zX} {cc : ByteArray} {own : String} {ret : Option FieldType} {nL f pc : Nat} {lo : List (Nat × Value)} {st : List Value} {idx : Nat} {c : CS} {j : Nat} (O : zO K X cc own ret nL f) (hN : kN K = 85) (hj : j < 12) (hw : Cond.fieldLink own idx RX3 (TX3 4).2.1 (TX3 4).2.2.1 ∈ zTB) (hd : decode cc pc = .ok (.getfield idx, 3)) (k : G K X nL (pc + 3) lo (.ref (kad K (6 * j + 18)) :: st) (layC K c)) : G K X nL pc lo (.ref (kad K (6 * j + 13)) :: st) (layC K c) :=
  r_get O (by rw [hN]; omega) (lay_j0 K c j) zCl3 hw (by decide) rfl hd k
theorem t_ld_ea {K : zK} {X : zX} {cc : ByteArray} {own : String} {ret : Option FieldType} {nL f pc : Nat} {lo : List (Nat × Value)} {st : List Value} {z : Int} {c : CS} {j : Nat} (O : zO K X cc own ret nL f) (hN : kN K = 85) (hj : j < 12) (h0 : 0 ≤ z) (h1 : z < 7) (hd : decode cc pc = .ok (.iaload, 1)) (k : G K X nL (pc + 1) lo (.int (iI (qea (c.1 j) z)) :: st) (layC K c)) : G K X nL pc lo (.int (iI z) :: .ref (kad K (6 * j + 18)) :: st) (layC K c) :=
  r_iald O (by rw [hN]; omega) (lay_qj K c j 5 (by omega) (by decide) rfl : layC K c (6 * j + 18) = .inl (kI K, 7, .inl (aI (qea (c.1 j))))) h0 h1 (by decide) hd k
theorem o_copy_ea {K : zK} {X : zX} {cc : ByteArray} {own : String} {ret : Option FieldType} {nL f pc : Nat} {lo : List (Nat × Value)} {st : List Value} {idx : Nat} {c : CS} {j i : Nat} {u : SV} {n am he sa ro fa : Int} {kd sp hu be ea : Int → Int} (O : zO K X cc own ret nL f) (hN : kN K = 85) (hj : j < 12) (hi : i < 12) (hne : i ≠ j) (hcu : c.1 i = u) (hw : zCopy own idx) (hf : 1 ≤ f) (hs : (st.map fun v => v.category).sum ≤ 5) (hd : decode cc pc = .ok (.invokestatic idx, 3)) (k : G K X nL (pc + 3) lo st (layC K (wS c j (n, am, he, sa, ro, fa, kd, sp, hu, be, cpI (qea u) ea 7)))) : G K X nL pc lo (.int (iI 7) :: .int (iI 0) :: .ref (kad K (6 * j + 18)) :: .int (iI 0) :: .ref (kad K (6 * i + 18)) :: st) (layC K (wS c j (n, am, he, sa, ro, fa, kd, sp, hu, be, ea))) := by
  refine r_copy O hw hf hs (by rw [hN]; omega) (by rw [hN]; omega) (lay_qj K _ i 5 (by omega) (by decide) (by rw [wS_n c _ hne, hcu]; rfl) : layC K (wS c j (n, am, he, sa, ro, fa, kd, sp, hu, be, ea)) (6 * i + 18) = .inl (kI K, 7, .inl (aI (qea u)))) (lay_q K c j (n, am, he, sa, ro, fa, kd, sp, hu, be, ea) 5 (by omega) (by decide) rfl : layC K (wS c j (n, am, he, sa, ro, fa, kd, sp, hu, be, ea)) (6 * j + 18) = .inl (kI K, 7, .inl (aI ea))) (by decide) (by decide) (by decide) (by decide) hd ?_
  exact G_ct (lay_up K c j (n, am, he, sa, ro, fa, kd, sp, hu, be, ea) (n, am, he, sa, ro, fa, kd, sp, hu, be, cpI (qea u) ea 7) 5 (by omega) (by decide) _ rfl (six (fun _ => by simp only [sitE, qn, qam, qhe, qsa, qro, qfa, qkd, qsp, qhu, qbe, qea]) (fun _ => by simp only [sitE, qn, qam, qhe, qsa, qro, qfa, qkd, qsp, qhu, qbe, qea]) (fun _ => by simp only [sitE, qn, qam, qhe, qsa, qro, qfa, qkd, qsp, qhu, qbe, qea]) (fun _ => by simp only [sitE, qn, qam, qhe, qsa, qro, qfa, qkd, qsp, qhu, qbe, qea]) (fun _ => by simp only [sitE, qn, qam, qhe, qsa, qro, qfa, qkd, qsp, qhu, qbe, qea]) (fun h => absurd rfl h))) k
def zget : List (Nat × Value) → Nat → Option Value
  | [], _ => none
  | (j, v) :: l, i => match Nat.beq j i with
    | true => some v
    | false => zget l i
def zput (i : Nat) (v : Value) : List (Nat × Value) → List (Nat × Value)
  | [] => [(i, v)]
  | (j, u) :: l => match Nat.beq j i with
    | true => (i, v) :: l.filter (fun q => !(q.1 == i) && !(q.1 + 1 == i && q.2.category == 2))
    | false => (j, u) :: zput i v l
def zoneb : List (Nat × Value) → Bool
  | [] => true
  | (_, v) :: l => Nat.beq v.category 1 && zoneb l
def zone (l : List (Nat × Value)) : Prop := zoneb l = true
theorem zone_c {j : Nat} {u : Value} {l : List (Nat × Value)} (h : zone ((j, u) :: l)) : u.category = 1 ∧ zone l := by
  unfold zone zoneb at h
  rw [Bool.and_eq_true] at h
  exact ⟨Nat.eq_of_beq_eq_true h.1, h.2⟩
theorem zget_lo {lo : List (Nat × Value)} {i : Nat} {v : Value} (h : zget lo i = some v) : zLo lo i v := by
  induction lo with
  | nil => cases h
  | cons a l ih =>
    obtain ⟨j, u⟩ := a
    unfold zget at h
    split at h
    · rename_i hb
      have e := Nat.eq_of_beq_eq_true hb
      cases h
      subst e
      exact zLo_0
    · exact zLo_s (ih h)
theorem zput_sub {lo : List (Nat × Value)} (h1 : zone lo) (i : Nat) (v : Value) : ∀ q ∈ zput i v lo, q ∈ zst i v lo := by
  induction lo with
  | nil => intro q hq; exact hq
  | cons a l ih =>
    obtain ⟨j, u⟩ := a
    intro q hq
    unfold zput at hq
    unfold zst at ih ⊢
    split at hq
    · rcases List.mem_cons.mp hq with h | h
      · rw [h]; exact List.mem_cons_self
      · refine List.mem_cons_of_mem _ ?_
        have h2 := List.mem_filter.mp h
        exact List.mem_filter.mpr ⟨List.mem_cons_of_mem _ h2.1, h2.2⟩
    · rename_i hb
      rcases List.mem_cons.mp hq with h | h
      · rw [h]
        refine List.mem_cons_of_mem _ (List.mem_filter.mpr ⟨List.mem_cons_self, ?_⟩)
        have e : (j == i) = false := by
          simpa using Nat.ne_of_beq_eq_false hb
        simp [e, (zone_c h1).1]
      · rcases List.mem_cons.mp (ih (zone_c h1).2 q h) with h2 | h2
        · rw [h2]; exact List.mem_cons_self
        · have h3 := List.mem_filter.mp h2
          exact List.mem_cons_of_mem _ (List.mem_filter.mpr ⟨List.mem_cons_of_mem _ h3.1, h3.2⟩)
def zsub : List (Nat × Value) → List (Nat × Value) → Prop
  | [], _ => True
  | (i, v) :: l, lo => zget lo i = some v ∧ zsub l lo
theorem zsub_in {lo' lo : List (Nat × Value)} (h : zsub lo' lo) : ∀ q ∈ lo', q ∈ lo := by
  induction lo' with
  | nil => intro q hq; cases hq
  | cons a l ih =>
    obtain ⟨i, v⟩ := a
    intro q hq
    rcases List.mem_cons.mp hq with h2 | h2
    · rw [h2]; exact zget_lo h.1
    · exact ih h.2 q h2
theorem zsn {lo : List (Nat × Value)} : zsub [] lo := trivial
theorem zsc {lo l : List (Nat × Value)} {i : Nat} {v : Value} (h : zget lo i = some v) (h2 : zsub l lo) : zsub ((i, v) :: l) lo := ⟨h, h2⟩
theorem G_chk {K : zK} {X : zX} {nL pc : Nat} {lo lo' : List (Nat × Value)} {st : List Value} {ct : zE} (k : G K X nL pc lo' st ct) (h : zsub lo' lo) : G K X nL pc lo st ct := G_sub (zsub_in h) k
theorem iI_e {a b : Int} (h : a = b) : (.int (iI a) : Value) = .int (iI b) := by rw [h]
theorem n_iload_n {K : zK} {X : zX} {cc : ByteArray} {own : String} {ret : Option FieldType} {nL f pc : Nat} {lo : List (Nat × Value)} {st : List Value} {ct : zE} {q : Fin 4} {x : Int32} (O : zO K X cc own ret nL f) (hd : decode cc pc = .ok (.iload_n q, 1)) (hg : zget lo (q : Nat) = some (.int x)) (k : G K X nL (pc + 1) lo (.int x :: st) ct) : G K X nL pc lo st ct := r_iload_n O hd rfl (zget_lo hg) k
theorem n_iload {K : zK} {X : zX} {cc : ByteArray} {own : String} {ret : Option FieldType} {nL f pc : Nat} {lo : List (Nat × Value)} {st : List Value} {ct : zE} {i : Nat} {x : Int32} (O : zO K X cc own ret nL f) (hd : decode cc pc = .ok (.iload i, 2)) (hg : zget lo i = some (.int x)) (k : G K X nL (pc + 2) lo (.int x :: st) ct) : G K X nL pc lo st ct := r_iload O hd (zget_lo hg) k
theorem n_istore_n {K : zK} {X : zX} {cc : ByteArray} {own : String} {ret : Option FieldType} {nL f pc : Nat} {lo : List (Nat × Value)} {st : List Value} {ct : zE} {q : Fin 4} {x : Int32} (O : zO K X cc own ret nL f) (hd : decode cc pc = .ok (.istore_n q, 1)) (hn : (q : Nat) < nL) (h1 : zone lo) (k : G K X nL (pc + 1) (zput (q : Nat) (.int x) lo) st ct) : G K X nL pc lo (.int x :: st) ct := r_istore_n O hd rfl hn rfl (G_sub (zput_sub h1 _ _) k)
theorem n_istore {K : zK} {X : zX} {cc : ByteArray} {own : String} {ret : Option FieldType} {nL f pc : Nat} {lo : List (Nat × Value)} {st : List Value} {ct : zE} {i : Nat} {x : Int32} (O : zO K X cc own ret nL f) (hd : decode cc pc = .ok (.istore i, 2)) (hn : i < nL) (h1 : zone lo) (k : G K X nL (pc + 2) (zput i (.int x) lo) st ct) : G K X nL pc lo (.int x :: st) ct := r_istore O hd hn rfl (G_sub (zput_sub h1 _ _) k)
theorem n_aload_n {K : zK} {X : zX} {cc : ByteArray} {own : String} {ret : Option FieldType} {nL f pc : Nat} {lo : List (Nat × Value)} {st : List Value} {ct : zE} {q : Fin 4} {x : Nat} (O : zO K X cc own ret nL f) (hd : decode cc pc = .ok (.aload_n q, 1)) (hg : zget lo (q : Nat) = some (.ref x)) (k : G K X nL (pc + 1) lo (.ref x :: st) ct) : G K X nL pc lo st ct := r_aload_n O hd rfl (zget_lo hg) k
theorem n_aload {K : zK} {X : zX} {cc : ByteArray} {own : String} {ret : Option FieldType} {nL f pc : Nat} {lo : List (Nat × Value)} {st : List Value} {ct : zE} {i : Nat} {x : Nat} (O : zO K X cc own ret nL f) (hd : decode cc pc = .ok (.aload i, 2)) (hg : zget lo i = some (.ref x)) (k : G K X nL (pc + 2) lo (.ref x :: st) ct) : G K X nL pc lo st ct := r_aload O hd (zget_lo hg) k
theorem n_astore_n {K : zK} {X : zX} {cc : ByteArray} {own : String} {ret : Option FieldType} {nL f pc : Nat} {lo : List (Nat × Value)} {st : List Value} {ct : zE} {q : Fin 4} {x : Nat} (O : zO K X cc own ret nL f) (hd : decode cc pc = .ok (.astore_n q, 1)) (hn : (q : Nat) < nL) (h1 : zone lo) (k : G K X nL (pc + 1) (zput (q : Nat) (.ref x) lo) st ct) : G K X nL pc lo (.ref x :: st) ct := r_astore_n O hd rfl hn rfl (G_sub (zput_sub h1 _ _) k)
theorem n_astore {K : zK} {X : zX} {cc : ByteArray} {own : String} {ret : Option FieldType} {nL f pc : Nat} {lo : List (Nat × Value)} {st : List Value} {ct : zE} {i : Nat} {x : Nat} (O : zO K X cc own ret nL f) (hd : decode cc pc = .ok (.astore i, 2)) (hn : i < nL) (h1 : zone lo) (k : G K X nL (pc + 2) (zput i (.ref x) lo) st ct) : G K X nL pc lo (.ref x :: st) ct := r_astore O hd hn rfl (G_sub (zput_sub h1 _ _) k)
theorem n_iinc {K : zK} {X : zX} {cc : ByteArray} {own : String} {ret : Option FieldType} {nL f pc : Nat} {lo : List (Nat × Value)} {st : List Value} {ct : zE} {i : Nat} {n x : Int} (O : zO K X cc own ret nL f) (hd : decode cc pc = .ok (.iinc i n, 3)) (hn : i < nL) (hg : zget lo i = some (.int (iI x))) (h1 : zone lo) (k : G K X nL (pc + 3) (zput i (.int (iI (x + n))) lo) st ct) : G K X nL pc lo st ct := r_iinc O hd hn (zget_lo hg) rfl (G_sub (zput_sub h1 _ _) k)
end
section
def wT (c : CS) (x : (Int → Int) × (Int → Int) × Int) : CS := (c.1, x, c.2.2)
def wE (c : CS) (x : (Int → Int) × Int × Int) : CS := (c.1, c.2.1, x, c.2.2.2)
def wV (c : CS) (x : (Int → Int) × (Int → Int) × Int) : CS := (c.1, c.2.1, c.2.2.1, x, c.2.2.2.2)
def wU (c : CS) (x : (Int → Nat) × Int) : CS := (c.1, c.2.1, c.2.2.1, c.2.2.2.1, x, c.2.2.2.2.2)
def wP (c : CS) (x : (Int → Nat) × Int) : CS := (c.1, c.2.1, c.2.2.1, c.2.2.2.1, c.2.2.2.2.1, x)
theorem zup_lay {K : zK} {c c' : CS} {q : Nat} {e : va_E} (h1 : layC K c' q = e) (h2 : ∀ k, k ≠ q → layC K c' k = layC K c k) : zup (layC K c) q e = layC K c' := by
  funext k
  unfold zup
  by_cases h : k = q
  · rw [if_pos h, h, h1]
  · rw [if_neg h, h2 k h]
theorem pileC_up (g : Int → Nat) (z : Int) (j : Nat) : uN' (pileC g) z (6 * j + 13) = pileC (uN' g z j) := by
  funext q
  unfold uN' pileC
  by_cases h : q = z
  · rw [if_pos h]; show _ = 6 * (if q = z then j else g q) + 13; rw [if_pos h]
  · rw [if_neg h]; show _ = 6 * (if q = z then j else g q) + 13; rw [if_neg h]
theorem r_cast {K : zK} {X : zX} {cc : ByteArray} {own : String} {ret : Option FieldType} {nL f pc : Nat} {lo : List (Nat × Value)} {st : List Value} {ct : zE} {a n : Nat} {g : Int → Int} {z v : Int} (O : zO K X cc own ret nL f) (ha : a < kN K) (he : ct a = .inl (kC K, n, .inl (aI g))) (h0 : 0 ≤ z) (h1 : z < n) (hn : n < 2147483648) (hv : vp_nar .char (iI v) = iI v) (hd : decode cc pc = .ok (.castore, 1)) (k : G K X nL (pc + 1) lo st (zup ct a (.inl (kC K, n, .inl (aI (uI g z v)))))) : G K X nL pc lo (.int (iI v) :: .int (iI z) :: .ref (kad K a) :: st) ct := by
  obtain ⟨l, D, A, ad, N, cI, cC, cS⟩ := K
  obtain ⟨p, e, R, s, m, args, below, meth, c, Q, cells, slots⟩ := X
  obtain ⟨hx, hb, hr, hml, hown, hts, hlk, hK, hZ, hI, hf1, hf2, hc1, hc2⟩ := O
  intro H locs ls hP hS hl
  refine va_cast (tys := _) hx hb hK hP (zwl_D hI ct) hS a 1 ((zwl_at ha).trans (by rw [he])) rfl (iI_in h0 h1 hn) hd (fun H1 locs1 hP1 _ hS1 => ?_)
  refine k H1 locs1 ls ?_ hS1 hl
  rw [hv, aI_up g v h0 (by omega)] at hP1
  have e9 := zwl_set (K := (l, D, A, ad, N, cI, cC, cS)) (ct := ct) (k := a) (.inl (cC, n, .inl (aI (uI g z v))))
  exact e9 ▸ hP1
theorem T_get_lt {K : zK} {X : zX} {cc : ByteArray} {own : String} {ret : Option FieldType} {nL f pc : Nat} {lo : List (Nat × Value)} {st : List Value} {idx : Nat} {c : CS} {lt : Int → Int} {nu : Int → Int} {le : Int} (O : zO K X cc own ret nL f) (hN : kN K = 85) (hw : Cond.fieldLink own idx RX4 (TX4 0).2.1 (TX4 0).2.2.1 ∈ zTB) (hd : decode cc pc = .ok (.getfield idx, 3)) (k : G K X nL (pc + 3) lo (.ref (kad K 2) :: st) (layC K (wT c (lt, nu, le)))) : G K X nL pc lo (.ref (kad K 1) :: st) (layC K (wT c (lt, nu, le))) :=
  r_get O (by rw [hN]; decide) (show layC K (wT c (lt, nu, le)) 1 = .inr (4, [.ref (kad K 2), .ref (kad K 3), .int (iI le)]) from rfl) zCl4 hw (by decide) rfl hd k
theorem T_ld_lt {K : zK} {X : zX} {cc : ByteArray} {own : String} {ret : Option FieldType} {nL f pc : Nat} {lo : List (Nat × Value)} {st : List Value} {z : Int} {c : CS} {lt : Int → Int} {nu : Int → Int} {le : Int} (O : zO K X cc own ret nL f) (hN : kN K = 85) (h0 : 0 ≤ z) (h1 : z < 200) (hd : decode cc pc = .ok (.caload, 1)) (k : G K X nL (pc + 1) lo (.int (iI (lt z)) :: st) (layC K (wT c (lt, nu, le)))) : G K X nL pc lo (.int (iI z) :: .ref (kad K 2) :: st) (layC K (wT c (lt, nu, le))) :=
  r_cald O (by rw [hN]; decide) (show layC K (wT c (lt, nu, le)) 2 = .inl (kC K, 200, .inl (aI lt)) from rfl) h0 h1 (by decide) hd k
theorem T_st_lt {K : zK} {X : zX} {cc : ByteArray} {own : String} {ret : Option FieldType} {nL f pc : Nat} {lo : List (Nat × Value)} {st : List Value} {z x : Int} {c : CS} {lt : Int → Int} {nu : Int → Int} {le : Int} (O : zO K X cc own ret nL f) (hN : kN K = 85) (h0 : 0 ≤ z) (h1 : z < 200) (hv : vp_nar .char (iI x) = iI x) (hd : decode cc pc = .ok (.castore, 1)) (k : G K X nL (pc + 1) lo st (layC K (wT c (uI lt z x, nu, le)))) : G K X nL pc lo (.int (iI x) :: .int (iI z) :: .ref (kad K 2) :: st) (layC K (wT c (lt, nu, le))) := by
  refine r_cast O (by rw [hN]; decide) (show layC K (wT c (lt, nu, le)) 2 = .inl (kC K, 200, .inl (aI lt)) from rfl) h0 h1 (by decide) hv hd ?_
  exact G_ct (zup_lay (c' := wT c (uI lt z x, nu, le)) rfl (fun k hk => match k, hk with
    | 0, _ => rfl
    | 1, _ => rfl
    | 2, h => absurd rfl h
    | 3, _ => rfl
    | 4, _ => rfl
    | 5, _ => rfl
    | 6, _ => rfl
    | 7, _ => rfl
    | 8, _ => rfl
    | 9, _ => rfl
    | 10, _ => rfl
    | 11, _ => rfl
    | 12, _ => rfl
    | _ + 13, _ => rfl)) k
theorem T_len_lt {K : zK} {X : zX} {cc : ByteArray} {own : String} {ret : Option FieldType} {nL f pc : Nat} {lo : List (Nat × Value)} {st : List Value} {c : CS} {lt : Int → Int} {nu : Int → Int} {le : Int} (O : zO K X cc own ret nL f) (hN : kN K = 85) (hd : decode cc pc = .ok (.arraylength, 1)) (k : G K X nL (pc + 1) lo (.int (iI 200) :: st) (layC K (wT c (lt, nu, le)))) : G K X nL pc lo (.ref (kad K 2) :: st) (layC K (wT c (lt, nu, le))) :=
  r_alen (n := 200) O (by rw [hN]; decide) (show layC K (wT c (lt, nu, le)) 2 = .inl (kC K, 200, .inl (aI lt)) from rfl) (Or.inr (Or.inl rfl)) rfl hd k
theorem T_get_nu {K : zK} {X : zX} {cc : ByteArray} {own : String} {ret : Option FieldType} {nL f pc : Nat} {lo : List (Nat × Value)} {st : List Value} {idx : Nat} {c : CS} {lt : Int → Int} {nu : Int → Int} {le : Int} (O : zO K X cc own ret nL f) (hN : kN K = 85) (hw : Cond.fieldLink own idx RX4 (TX4 1).2.1 (TX4 1).2.2.1 ∈ zTB) (hd : decode cc pc = .ok (.getfield idx, 3)) (k : G K X nL (pc + 3) lo (.ref (kad K 3) :: st) (layC K (wT c (lt, nu, le)))) : G K X nL pc lo (.ref (kad K 1) :: st) (layC K (wT c (lt, nu, le))) :=
  r_get O (by rw [hN]; decide) (show layC K (wT c (lt, nu, le)) 1 = .inr (4, [.ref (kad K 2), .ref (kad K 3), .int (iI le)]) from rfl) zCl4 hw (by decide) rfl hd k
theorem T_ld_nu {K : zK} {X : zX} {cc : ByteArray} {own : String} {ret : Option FieldType} {nL f pc : Nat} {lo : List (Nat × Value)} {st : List Value} {z : Int} {c : CS} {lt : Int → Int} {nu : Int → Int} {le : Int} (O : zO K X cc own ret nL f) (hN : kN K = 85) (h0 : 0 ≤ z) (h1 : z < 4) (hd : decode cc pc = .ok (.iaload, 1)) (k : G K X nL (pc + 1) lo (.int (iI (nu z)) :: st) (layC K (wT c (lt, nu, le)))) : G K X nL pc lo (.int (iI z) :: .ref (kad K 3) :: st) (layC K (wT c (lt, nu, le))) :=
  r_iald O (by rw [hN]; decide) (show layC K (wT c (lt, nu, le)) 3 = .inl (kI K, 4, .inl (aI nu)) from rfl) h0 h1 (by decide) hd k
theorem T_st_nu {K : zK} {X : zX} {cc : ByteArray} {own : String} {ret : Option FieldType} {nL f pc : Nat} {lo : List (Nat × Value)} {st : List Value} {z x : Int} {c : CS} {lt : Int → Int} {nu : Int → Int} {le : Int} (O : zO K X cc own ret nL f) (hN : kN K = 85) (h0 : 0 ≤ z) (h1 : z < 4) (hd : decode cc pc = .ok (.iastore, 1)) (k : G K X nL (pc + 1) lo st (layC K (wT c (lt, uI nu z x, le)))) : G K X nL pc lo (.int (iI x) :: .int (iI z) :: .ref (kad K 3) :: st) (layC K (wT c (lt, nu, le))) := by
  refine r_iast O (by rw [hN]; decide) (show layC K (wT c (lt, nu, le)) 3 = .inl (kI K, 4, .inl (aI nu)) from rfl) h0 h1 (by decide) hd ?_
  exact G_ct (zup_lay (c' := wT c (lt, uI nu z x, le)) rfl (fun k hk => match k, hk with
    | 0, _ => rfl
    | 1, _ => rfl
    | 2, _ => rfl
    | 3, h => absurd rfl h
    | 4, _ => rfl
    | 5, _ => rfl
    | 6, _ => rfl
    | 7, _ => rfl
    | 8, _ => rfl
    | 9, _ => rfl
    | 10, _ => rfl
    | 11, _ => rfl
    | 12, _ => rfl
    | _ + 13, _ => rfl)) k
theorem T_len_nu {K : zK} {X : zX} {cc : ByteArray} {own : String} {ret : Option FieldType} {nL f pc : Nat} {lo : List (Nat × Value)} {st : List Value} {c : CS} {lt : Int → Int} {nu : Int → Int} {le : Int} (O : zO K X cc own ret nL f) (hN : kN K = 85) (hd : decode cc pc = .ok (.arraylength, 1)) (k : G K X nL (pc + 1) lo (.int (iI 4) :: st) (layC K (wT c (lt, nu, le)))) : G K X nL pc lo (.ref (kad K 3) :: st) (layC K (wT c (lt, nu, le))) :=
  r_alen (n := 4) O (by rw [hN]; decide) (show layC K (wT c (lt, nu, le)) 3 = .inl (kI K, 4, .inl (aI nu)) from rfl) (Or.inl rfl) rfl hd k
theorem T_get_le {K : zK} {X : zX} {cc : ByteArray} {own : String} {ret : Option FieldType} {nL f pc : Nat} {lo : List (Nat × Value)} {st : List Value} {idx : Nat} {c : CS} {lt : Int → Int} {nu : Int → Int} {le : Int} (O : zO K X cc own ret nL f) (hN : kN K = 85) (hw : Cond.fieldLink own idx RX4 (TX4 2).2.1 (TX4 2).2.2.1 ∈ zTB) (hd : decode cc pc = .ok (.getfield idx, 3)) (k : G K X nL (pc + 3) lo (.int (iI le) :: st) (layC K (wT c (lt, nu, le)))) : G K X nL pc lo (.ref (kad K 1) :: st) (layC K (wT c (lt, nu, le))) :=
  r_get O (by rw [hN]; decide) (show layC K (wT c (lt, nu, le)) 1 = .inr (4, [.ref (kad K 2), .ref (kad K 3), .int (iI le)]) from rfl) zCl4 hw (by decide) rfl hd k
theorem T_put_le {K : zK} {X : zX} {cc : ByteArray} {own : String} {ret : Option FieldType} {nL f pc : Nat} {lo : List (Nat × Value)} {st : List Value} {idx : Nat} {x : Int} {c : CS} {lt : Int → Int} {nu : Int → Int} {le : Int} (O : zO K X cc own ret nL f) (hN : kN K = 85) (hw : Cond.fieldLink own idx RX4 (TX4 2).2.1 (TX4 2).2.2.1 ∈ zTB) (hd : decode cc pc = .ok (.putfield idx, 3)) (k : G K X nL (pc + 3) lo st (layC K (wT c (lt, nu, x)))) : G K X nL pc lo (.int (iI x) :: .ref (kad K 1) :: st) (layC K (wT c (lt, nu, le))) := by
  refine r_put (ty := .int) O (by rw [hN]; decide) (show layC K (wT c (lt, nu, le)) 1 = .inr (4, [.ref (kad K 2), .ref (kad K 3), .int (iI le)]) from rfl) zCl4 hw (by decide) rfl (by decide +kernel) rfl rfl (Nat.le_of_ble_eq_true rfl) hd ?_
  exact G_ct (zup_lay (c' := wT c (lt, nu, x)) rfl (fun k hk => match k, hk with
    | 0, _ => rfl
    | 1, h => absurd rfl h
    | 2, _ => rfl
    | 3, _ => rfl
    | 4, _ => rfl
    | 5, _ => rfl
    | 6, _ => rfl
    | 7, _ => rfl
    | 8, _ => rfl
    | 9, _ => rfl
    | 10, _ => rfl
    | 11, _ => rfl
    | 12, _ => rfl
    | _ + 13, _ => rfl)) k
theorem E_get_rc {K : zK} {X : zX} {cc : ByteArray} {own : String} {ret : Option FieldType} {nL f pc : Nat} {lo : List (Nat × Value)} {st : List Value} {idx : Nat} {c : CS} {rc : Int → Int} {mm : Int} {aa : Int} (O : zO K X cc own ret nL f) (hN : kN K = 85) (hw : Cond.fieldLink own idx RX1 (TX1 0).2.1 (TX1 0).2.2.1 ∈ zTB) (hd : decode cc pc = .ok (.getfield idx, 3)) (k : G K X nL (pc + 3) lo (.ref (kad K 5) :: st) (layC K (wE c (rc, mm, aa)))) : G K X nL pc lo (.ref (kad K 4) :: st) (layC K (wE c (rc, mm, aa))) :=
  r_get O (by rw [hN]; decide) (show layC K (wE c (rc, mm, aa)) 4 = .inr (1, [.ref (kad K 5), .int (iI mm), .int (iI aa)]) from rfl) zCl1 hw (by decide) rfl hd k
theorem E_ld_rc {K : zK} {X : zX} {cc : ByteArray} {own : String} {ret : Option FieldType} {nL f pc : Nat} {lo : List (Nat × Value)} {st : List Value} {z : Int} {c : CS} {rc : Int → Int} {mm : Int} {aa : Int} (O : zO K X cc own ret nL f) (hN : kN K = 85) (h0 : 0 ≤ z) (h1 : z < 7) (hd : decode cc pc = .ok (.iaload, 1)) (k : G K X nL (pc + 1) lo (.int (iI (rc z)) :: st) (layC K (wE c (rc, mm, aa)))) : G K X nL pc lo (.int (iI z) :: .ref (kad K 5) :: st) (layC K (wE c (rc, mm, aa))) :=
  r_iald O (by rw [hN]; decide) (show layC K (wE c (rc, mm, aa)) 5 = .inl (kI K, 7, .inl (aI rc)) from rfl) h0 h1 (by decide) hd k
theorem E_st_rc {K : zK} {X : zX} {cc : ByteArray} {own : String} {ret : Option FieldType} {nL f pc : Nat} {lo : List (Nat × Value)} {st : List Value} {z x : Int} {c : CS} {rc : Int → Int} {mm : Int} {aa : Int} (O : zO K X cc own ret nL f) (hN : kN K = 85) (h0 : 0 ≤ z) (h1 : z < 7) (hd : decode cc pc = .ok (.iastore, 1)) (k : G K X nL (pc + 1) lo st (layC K (wE c (uI rc z x, mm, aa)))) : G K X nL pc lo (.int (iI x) :: .int (iI z) :: .ref (kad K 5) :: st) (layC K (wE c (rc, mm, aa))) := by
  refine r_iast O (by rw [hN]; decide) (show layC K (wE c (rc, mm, aa)) 5 = .inl (kI K, 7, .inl (aI rc)) from rfl) h0 h1 (by decide) hd ?_
  exact G_ct (zup_lay (c' := wE c (uI rc z x, mm, aa)) rfl (fun k hk => match k, hk with
    | 0, _ => rfl
    | 1, _ => rfl
    | 2, _ => rfl
    | 3, _ => rfl
    | 4, _ => rfl
    | 5, h => absurd rfl h
    | 6, _ => rfl
    | 7, _ => rfl
    | 8, _ => rfl
    | 9, _ => rfl
    | 10, _ => rfl
    | 11, _ => rfl
    | 12, _ => rfl
    | _ + 13, _ => rfl)) k
theorem E_len_rc {K : zK} {X : zX} {cc : ByteArray} {own : String} {ret : Option FieldType} {nL f pc : Nat} {lo : List (Nat × Value)} {st : List Value} {c : CS} {rc : Int → Int} {mm : Int} {aa : Int} (O : zO K X cc own ret nL f) (hN : kN K = 85) (hd : decode cc pc = .ok (.arraylength, 1)) (k : G K X nL (pc + 1) lo (.int (iI 7) :: st) (layC K (wE c (rc, mm, aa)))) : G K X nL pc lo (.ref (kad K 5) :: st) (layC K (wE c (rc, mm, aa))) :=
  r_alen (n := 7) O (by rw [hN]; decide) (show layC K (wE c (rc, mm, aa)) 5 = .inl (kI K, 7, .inl (aI rc)) from rfl) (Or.inl rfl) rfl hd k
theorem E_get_mm {K : zK} {X : zX} {cc : ByteArray} {own : String} {ret : Option FieldType} {nL f pc : Nat} {lo : List (Nat × Value)} {st : List Value} {idx : Nat} {c : CS} {rc : Int → Int} {mm : Int} {aa : Int} (O : zO K X cc own ret nL f) (hN : kN K = 85) (hw : Cond.fieldLink own idx RX1 (TX1 1).2.1 (TX1 1).2.2.1 ∈ zTB) (hd : decode cc pc = .ok (.getfield idx, 3)) (k : G K X nL (pc + 3) lo (.int (iI mm) :: st) (layC K (wE c (rc, mm, aa)))) : G K X nL pc lo (.ref (kad K 4) :: st) (layC K (wE c (rc, mm, aa))) :=
  r_get O (by rw [hN]; decide) (show layC K (wE c (rc, mm, aa)) 4 = .inr (1, [.ref (kad K 5), .int (iI mm), .int (iI aa)]) from rfl) zCl1 hw (by decide) rfl hd k
theorem E_put_mm {K : zK} {X : zX} {cc : ByteArray} {own : String} {ret : Option FieldType} {nL f pc : Nat} {lo : List (Nat × Value)} {st : List Value} {idx : Nat} {x : Int} {c : CS} {rc : Int → Int} {mm : Int} {aa : Int} (O : zO K X cc own ret nL f) (hN : kN K = 85) (hw : Cond.fieldLink own idx RX1 (TX1 1).2.1 (TX1 1).2.2.1 ∈ zTB) (hd : decode cc pc = .ok (.putfield idx, 3)) (k : G K X nL (pc + 3) lo st (layC K (wE c (rc, x, aa)))) : G K X nL pc lo (.int (iI x) :: .ref (kad K 4) :: st) (layC K (wE c (rc, mm, aa))) := by
  refine r_put (ty := .int) O (by rw [hN]; decide) (show layC K (wE c (rc, mm, aa)) 4 = .inr (1, [.ref (kad K 5), .int (iI mm), .int (iI aa)]) from rfl) zCl1 hw (by decide) rfl (by decide +kernel) rfl rfl (Nat.le_of_ble_eq_true rfl) hd ?_
  exact G_ct (zup_lay (c' := wE c (rc, x, aa)) rfl (fun k hk => match k, hk with
    | 0, _ => rfl
    | 1, _ => rfl
    | 2, _ => rfl
    | 3, _ => rfl
    | 4, h => absurd rfl h
    | 5, _ => rfl
    | 6, _ => rfl
    | 7, _ => rfl
    | 8, _ => rfl
    | 9, _ => rfl
    | 10, _ => rfl
    | 11, _ => rfl
    | 12, _ => rfl
    | _ + 13, _ => rfl)) k
theorem E_get_aa {K : zK} {X : zX} {cc : ByteArray} {own : String} {ret : Option FieldType} {nL f pc : Nat} {lo : List (Nat × Value)} {st : List Value} {idx : Nat} {c : CS} {rc : Int → Int} {mm : Int} {aa : Int} (O : zO K X cc own ret nL f) (hN : kN K = 85) (hw : Cond.fieldLink own idx RX1 (TX1 2).2.1 (TX1 2).2.2.1 ∈ zTB) (hd : decode cc pc = .ok (.getfield idx, 3)) (k : G K X nL (pc + 3) lo (.int (iI aa) :: st) (layC K (wE c (rc, mm, aa)))) : G K X nL pc lo (.ref (kad K 4) :: st) (layC K (wE c (rc, mm, aa))) :=
  r_get O (by rw [hN]; decide) (show layC K (wE c (rc, mm, aa)) 4 = .inr (1, [.ref (kad K 5), .int (iI mm), .int (iI aa)]) from rfl) zCl1 hw (by decide) rfl hd k
theorem E_put_aa {K : zK} {X : zX} {cc : ByteArray} {own : String} {ret : Option FieldType} {nL f pc : Nat} {lo : List (Nat × Value)} {st : List Value} {idx : Nat} {x : Int} {c : CS} {rc : Int → Int} {mm : Int} {aa : Int} (O : zO K X cc own ret nL f) (hN : kN K = 85) (hw : Cond.fieldLink own idx RX1 (TX1 2).2.1 (TX1 2).2.2.1 ∈ zTB) (hd : decode cc pc = .ok (.putfield idx, 3)) (k : G K X nL (pc + 3) lo st (layC K (wE c (rc, mm, x)))) : G K X nL pc lo (.int (iI x) :: .ref (kad K 4) :: st) (layC K (wE c (rc, mm, aa))) := by
  refine r_put (ty := .int) O (by rw [hN]; decide) (show layC K (wE c (rc, mm, aa)) 4 = .inr (1, [.ref (kad K 5), .int (iI mm), .int (iI aa)]) from rfl) zCl1 hw (by decide) rfl (by decide +kernel) rfl rfl (Nat.le_of_ble_eq_true rfl) hd ?_
  exact G_ct (zup_lay (c' := wE c (rc, mm, x)) rfl (fun k hk => match k, hk with
    | 0, _ => rfl
    | 1, _ => rfl
    | 2, _ => rfl
    | 3, _ => rfl
    | 4, h => absurd rfl h
    | 5, _ => rfl
    | 6, _ => rfl
    | 7, _ => rfl
    | 8, _ => rfl
    | 9, _ => rfl
    | 10, _ => rfl
    | 11, _ => rfl
    | 12, _ => rfl
    | _ + 13, _ => rfl)) k
theorem V_get_wh {K : zK} {X : zX} {cc : ByteArray} {own : String} {ret : Option FieldType} {nL f pc : Nat} {lo : List (Nat × Value)} {st : List Value} {idx : Nat} {c : CS} {wh : Int → Int} {mu : Int → Int} {my : Int} (O : zO K X cc own ret nL f) (hN : kN K = 85) (hw : Cond.fieldLink own idx RX2 (TX2 0).2.1 (TX2 0).2.2.1 ∈ zTB) (hd : decode cc pc = .ok (.getfield idx, 3)) (k : G K X nL (pc + 3) lo (.ref (kad K 7) :: st) (layC K (wV c (wh, mu, my)))) : G K X nL pc lo (.ref (kad K 6) :: st) (layC K (wV c (wh, mu, my))) :=
  r_get O (by rw [hN]; decide) (show layC K (wV c (wh, mu, my)) 6 = .inr (2, [.ref (kad K 7), .ref (kad K 8), .int (iI my)]) from rfl) zCl2 hw (by decide) rfl hd k
theorem V_ld_wh {K : zK} {X : zX} {cc : ByteArray} {own : String} {ret : Option FieldType} {nL f pc : Nat} {lo : List (Nat × Value)} {st : List Value} {z : Int} {c : CS} {wh : Int → Int} {mu : Int → Int} {my : Int} (O : zO K X cc own ret nL f) (hN : kN K = 85) (h0 : 0 ≤ z) (h1 : z < 6) (hd : decode cc pc = .ok (.iaload, 1)) (k : G K X nL (pc + 1) lo (.int (iI (wh z)) :: st) (layC K (wV c (wh, mu, my)))) : G K X nL pc lo (.int (iI z) :: .ref (kad K 7) :: st) (layC K (wV c (wh, mu, my))) :=
  r_iald O (by rw [hN]; decide) (show layC K (wV c (wh, mu, my)) 7 = .inl (kI K, 6, .inl (aI wh)) from rfl) h0 h1 (by decide) hd k
theorem V_st_wh {K : zK} {X : zX} {cc : ByteArray} {own : String} {ret : Option FieldType} {nL f pc : Nat} {lo : List (Nat × Value)} {st : List Value} {z x : Int} {c : CS} {wh : Int → Int} {mu : Int → Int} {my : Int} (O : zO K X cc own ret nL f) (hN : kN K = 85) (h0 : 0 ≤ z) (h1 : z < 6) (hd : decode cc pc = .ok (.iastore, 1)) (k : G K X nL (pc + 1) lo st (layC K (wV c (uI wh z x, mu, my)))) : G K X nL pc lo (.int (iI x) :: .int (iI z) :: .ref (kad K 7) :: st) (layC K (wV c (wh, mu, my))) := by
  refine r_iast O (by rw [hN]; decide) (show layC K (wV c (wh, mu, my)) 7 = .inl (kI K, 6, .inl (aI wh)) from rfl) h0 h1 (by decide) hd ?_
  exact G_ct (zup_lay (c' := wV c (uI wh z x, mu, my)) rfl (fun k hk => match k, hk with
    | 0, _ => rfl
    | 1, _ => rfl
    | 2, _ => rfl
    | 3, _ => rfl
    | 4, _ => rfl
    | 5, _ => rfl
    | 6, _ => rfl
    | 7, h => absurd rfl h
    | 8, _ => rfl
    | 9, _ => rfl
    | 10, _ => rfl
    | 11, _ => rfl
    | 12, _ => rfl
    | _ + 13, _ => rfl)) k
theorem V_len_wh {K : zK} {X : zX} {cc : ByteArray} {own : String} {ret : Option FieldType} {nL f pc : Nat} {lo : List (Nat × Value)} {st : List Value} {c : CS} {wh : Int → Int} {mu : Int → Int} {my : Int} (O : zO K X cc own ret nL f) (hN : kN K = 85) (hd : decode cc pc = .ok (.arraylength, 1)) (k : G K X nL (pc + 1) lo (.int (iI 6) :: st) (layC K (wV c (wh, mu, my)))) : G K X nL pc lo (.ref (kad K 7) :: st) (layC K (wV c (wh, mu, my))) :=
  r_alen (n := 6) O (by rw [hN]; decide) (show layC K (wV c (wh, mu, my)) 7 = .inl (kI K, 6, .inl (aI wh)) from rfl) (Or.inl rfl) rfl hd k
theorem V_get_mu {K : zK} {X : zX} {cc : ByteArray} {own : String} {ret : Option FieldType} {nL f pc : Nat} {lo : List (Nat × Value)} {st : List Value} {idx : Nat} {c : CS} {wh : Int → Int} {mu : Int → Int} {my : Int} (O : zO K X cc own ret nL f) (hN : kN K = 85) (hw : Cond.fieldLink own idx RX2 (TX2 1).2.1 (TX2 1).2.2.1 ∈ zTB) (hd : decode cc pc = .ok (.getfield idx, 3)) (k : G K X nL (pc + 3) lo (.ref (kad K 8) :: st) (layC K (wV c (wh, mu, my)))) : G K X nL pc lo (.ref (kad K 6) :: st) (layC K (wV c (wh, mu, my))) :=
  r_get O (by rw [hN]; decide) (show layC K (wV c (wh, mu, my)) 6 = .inr (2, [.ref (kad K 7), .ref (kad K 8), .int (iI my)]) from rfl) zCl2 hw (by decide) rfl hd k
theorem V_ld_mu {K : zK} {X : zX} {cc : ByteArray} {own : String} {ret : Option FieldType} {nL f pc : Nat} {lo : List (Nat × Value)} {st : List Value} {z : Int} {c : CS} {wh : Int → Int} {mu : Int → Int} {my : Int} (O : zO K X cc own ret nL f) (hN : kN K = 85) (h0 : 0 ≤ z) (h1 : z < 6) (hd : decode cc pc = .ok (.iaload, 1)) (k : G K X nL (pc + 1) lo (.int (iI (mu z)) :: st) (layC K (wV c (wh, mu, my)))) : G K X nL pc lo (.int (iI z) :: .ref (kad K 8) :: st) (layC K (wV c (wh, mu, my))) :=
  r_iald O (by rw [hN]; decide) (show layC K (wV c (wh, mu, my)) 8 = .inl (kI K, 6, .inl (aI mu)) from rfl) h0 h1 (by decide) hd k
theorem V_st_mu {K : zK} {X : zX} {cc : ByteArray} {own : String} {ret : Option FieldType} {nL f pc : Nat} {lo : List (Nat × Value)} {st : List Value} {z x : Int} {c : CS} {wh : Int → Int} {mu : Int → Int} {my : Int} (O : zO K X cc own ret nL f) (hN : kN K = 85) (h0 : 0 ≤ z) (h1 : z < 6) (hd : decode cc pc = .ok (.iastore, 1)) (k : G K X nL (pc + 1) lo st (layC K (wV c (wh, uI mu z x, my)))) : G K X nL pc lo (.int (iI x) :: .int (iI z) :: .ref (kad K 8) :: st) (layC K (wV c (wh, mu, my))) := by
  refine r_iast O (by rw [hN]; decide) (show layC K (wV c (wh, mu, my)) 8 = .inl (kI K, 6, .inl (aI mu)) from rfl) h0 h1 (by decide) hd ?_
  exact G_ct (zup_lay (c' := wV c (wh, uI mu z x, my)) rfl (fun k hk => match k, hk with
    | 0, _ => rfl
    | 1, _ => rfl
    | 2, _ => rfl
    | 3, _ => rfl
    | 4, _ => rfl
    | 5, _ => rfl
    | 6, _ => rfl
    | 7, _ => rfl
    | 8, h => absurd rfl h
    | 9, _ => rfl
    | 10, _ => rfl
    | 11, _ => rfl
    | 12, _ => rfl
    | _ + 13, _ => rfl)) k
theorem V_len_mu {K : zK} {X : zX} {cc : ByteArray} {own : String} {ret : Option FieldType} {nL f pc : Nat} {lo : List (Nat × Value)} {st : List Value} {c : CS} {wh : Int → Int} {mu : Int → Int} {my : Int} (O : zO K X cc own ret nL f) (hN : kN K = 85) (hd : decode cc pc = .ok (.arraylength, 1)) (k : G K X nL (pc + 1) lo (.int (iI 6) :: st) (layC K (wV c (wh, mu, my)))) : G K X nL pc lo (.ref (kad K 8) :: st) (layC K (wV c (wh, mu, my))) :=
  r_alen (n := 6) O (by rw [hN]; decide) (show layC K (wV c (wh, mu, my)) 8 = .inl (kI K, 6, .inl (aI mu)) from rfl) (Or.inl rfl) rfl hd k
theorem V_get_my {K : zK} {X : zX} {cc : ByteArray} {own : String} {ret : Option FieldType} {nL f pc : Nat} {lo : List (Nat × Value)} {st : List Value} {idx : Nat} {c : CS} {wh : Int → Int} {mu : Int → Int} {my : Int} (O : zO K X cc own ret nL f) (hN : kN K = 85) (hw : Cond.fieldLink own idx RX2 (TX2 2).2.1 (TX2 2).2.2.1 ∈ zTB) (hd : decode cc pc = .ok (.getfield idx, 3)) (k : G K X nL (pc + 3) lo (.int (iI my) :: st) (layC K (wV c (wh, mu, my)))) : G K X nL pc lo (.ref (kad K 6) :: st) (layC K (wV c (wh, mu, my))) :=
  r_get O (by rw [hN]; decide) (show layC K (wV c (wh, mu, my)) 6 = .inr (2, [.ref (kad K 7), .ref (kad K 8), .int (iI my)]) from rfl) zCl2 hw (by decide) rfl hd k
theorem V_put_my {K : zK} {X : zX} {cc : ByteArray} {own : String} {ret : Option FieldType} {nL f pc : Nat} {lo : List (Nat × Value)} {st : List Value} {idx : Nat} {x : Int} {c : CS} {wh : Int → Int} {mu : Int → Int} {my : Int} (O : zO K X cc own ret nL f) (hN : kN K = 85) (hw : Cond.fieldLink own idx RX2 (TX2 2).2.1 (TX2 2).2.2.1 ∈ zTB) (hd : decode cc pc = .ok (.putfield idx, 3)) (k : G K X nL (pc + 3) lo st (layC K (wV c (wh, mu, x)))) : G K X nL pc lo (.int (iI x) :: .ref (kad K 6) :: st) (layC K (wV c (wh, mu, my))) := by
  refine r_put (ty := .int) O (by rw [hN]; decide) (show layC K (wV c (wh, mu, my)) 6 = .inr (2, [.ref (kad K 7), .ref (kad K 8), .int (iI my)]) from rfl) zCl2 hw (by decide) rfl (by decide +kernel) rfl rfl (Nat.le_of_ble_eq_true rfl) hd ?_
  exact G_ct (zup_lay (c' := wV c (wh, mu, x)) rfl (fun k hk => match k, hk with
    | 0, _ => rfl
    | 1, _ => rfl
    | 2, _ => rfl
    | 3, _ => rfl
    | 4, _ => rfl
    | 5, _ => rfl
    | 6, h => absurd rfl h
    | 7, _ => rfl
    | 8, _ => rfl
    | 9, _ => rfl
    | 10, _ => rfl
    | 11, _ => rfl
    | 12, _ => rfl
    | _ + 13, _ => rfl)) k
theorem U_get_pm {K : zK} {X : zX} {cc : ByteArray} {own : String} {ret : Option FieldType} {nL f pc : Nat} {lo : List (Nat × Value)} {st : List Value} {idx : Nat} {c : CS} {pm : Int → Nat} {my : Int} (O : zO K X cc own ret nL f) (hN : kN K = 85) (hw : Cond.fieldLink own idx RX0 (TX0 0).2.1 (TX0 0).2.2.1 ∈ zTB) (hd : decode cc pc = .ok (.getfield idx, 3)) (k : G K X nL (pc + 3) lo (.ref (kad K 10) :: st) (layC K (wU c (pm, my)))) : G K X nL pc lo (.ref (kad K 9) :: st) (layC K (wU c (pm, my))) :=
  r_get O (by rw [hN]; decide) (show layC K (wU c (pm, my)) 9 = .inr (0, [.ref (kad K 10), .int (iI my)]) from rfl) zCl0 hw (by decide) rfl hd k
theorem U_ld_pm {K : zK} {X : zX} {cc : ByteArray} {own : String} {ret : Option FieldType} {nL f pc : Nat} {lo : List (Nat × Value)} {st : List Value} {z : Int} {c : CS} {pm : Int → Nat} {my : Int} (O : zO K X cc own ret nL f) (hN : kN K = 85) (h0 : 0 ≤ z) (h1 : z < 8) (hd : decode cc pc = .ok (.aaload, 1)) (k : G K X nL (pc + 1) lo (.ref (kad K (6 * pm z + 13)) :: st) (layC K (wU c (pm, my)))) : G K X nL pc lo (.int (iI z) :: .ref (kad K 10) :: st) (layC K (wU c (pm, my))) :=
  r_aald O (by rw [hN]; decide) (show layC K (wU c (pm, my)) 10 = .inl (kS K, 8, .inr (.inr (.inr (.inr (rI K (pileC pm)))))) from rfl) h0 h1 (by decide) hd k
theorem U_st_pm {K : zK} {X : zX} {cc : ByteArray} {own : String} {ret : Option FieldType} {nL f pc : Nat} {lo : List (Nat × Value)} {st : List Value} {z : Int} {j : Nat} {c : CS} {pm : Int → Nat} {my : Int} (O : zO K X cc own ret nL f) (hN : kN K = 85) (hj : j < 12) (h0 : 0 ≤ z) (h1 : z < 8) (hd : decode cc pc = .ok (.aastore, 1)) (k : G K X nL (pc + 1) lo st (layC K (wU c (uN' pm z j, my)))) : G K X nL pc lo (.ref (kad K (6 * j + 13)) :: .int (iI z) :: .ref (kad K 10) :: st) (layC K (wU c (pm, my))) := by
  refine r_aast O (by rw [hN]; decide) (show layC K (wU c (pm, my)) 10 = .inl (kS K, 8, .inr (.inr (.inr (.inr (rI K (pileC pm)))))) from rfl) (by rw [hN]; omega) (lay_j0 K _ j) h0 h1 (by decide) hd ?_
  rw [pileC_up]
  exact G_ct (zup_lay (c' := wU c (uN' pm z j, my)) rfl (fun k hk => match k, hk with
    | 0, _ => rfl
    | 1, _ => rfl
    | 2, _ => rfl
    | 3, _ => rfl
    | 4, _ => rfl
    | 5, _ => rfl
    | 6, _ => rfl
    | 7, _ => rfl
    | 8, _ => rfl
    | 9, _ => rfl
    | 10, h => absurd rfl h
    | 11, _ => rfl
    | 12, _ => rfl
    | _ + 13, _ => rfl)) k
theorem U_len_pm {K : zK} {X : zX} {cc : ByteArray} {own : String} {ret : Option FieldType} {nL f pc : Nat} {lo : List (Nat × Value)} {st : List Value} {c : CS} {pm : Int → Nat} {my : Int} (O : zO K X cc own ret nL f) (hN : kN K = 85) (hd : decode cc pc = .ok (.arraylength, 1)) (k : G K X nL (pc + 1) lo (.int (iI 8) :: st) (layC K (wU c (pm, my)))) : G K X nL pc lo (.ref (kad K 10) :: st) (layC K (wU c (pm, my))) :=
  r_alen (n := 8) O (by rw [hN]; decide) (show layC K (wU c (pm, my)) 10 = .inl (kS K, 8, .inr (.inr (.inr (.inr (rI K (pileC pm)))))) from rfl) (Or.inr (Or.inr rfl)) rfl hd k
theorem U_get_my {K : zK} {X : zX} {cc : ByteArray} {own : String} {ret : Option FieldType} {nL f pc : Nat} {lo : List (Nat × Value)} {st : List Value} {idx : Nat} {c : CS} {pm : Int → Nat} {my : Int} (O : zO K X cc own ret nL f) (hN : kN K = 85) (hw : Cond.fieldLink own idx RX0 (TX0 1).2.1 (TX0 1).2.2.1 ∈ zTB) (hd : decode cc pc = .ok (.getfield idx, 3)) (k : G K X nL (pc + 3) lo (.int (iI my) :: st) (layC K (wU c (pm, my)))) : G K X nL pc lo (.ref (kad K 9) :: st) (layC K (wU c (pm, my))) :=
  r_get O (by rw [hN]; decide) (show layC K (wU c (pm, my)) 9 = .inr (0, [.ref (kad K 10), .int (iI my)]) from rfl) zCl0 hw (by decide) rfl hd k
theorem U_put_my {K : zK} {X : zX} {cc : ByteArray} {own : String} {ret : Option FieldType} {nL f pc : Nat} {lo : List (Nat × Value)} {st : List Value} {idx : Nat} {x : Int} {c : CS} {pm : Int → Nat} {my : Int} (O : zO K X cc own ret nL f) (hN : kN K = 85) (hw : Cond.fieldLink own idx RX0 (TX0 1).2.1 (TX0 1).2.2.1 ∈ zTB) (hd : decode cc pc = .ok (.putfield idx, 3)) (k : G K X nL (pc + 3) lo st (layC K (wU c (pm, x)))) : G K X nL pc lo (.int (iI x) :: .ref (kad K 9) :: st) (layC K (wU c (pm, my))) := by
  refine r_put (ty := .int) O (by rw [hN]; decide) (show layC K (wU c (pm, my)) 9 = .inr (0, [.ref (kad K 10), .int (iI my)]) from rfl) zCl0 hw (by decide) rfl (by decide +kernel) rfl rfl (Nat.le_of_ble_eq_true rfl) hd ?_
  exact G_ct (zup_lay (c' := wU c (pm, x)) rfl (fun k hk => match k, hk with
    | 0, _ => rfl
    | 1, _ => rfl
    | 2, _ => rfl
    | 3, _ => rfl
    | 4, _ => rfl
    | 5, _ => rfl
    | 6, _ => rfl
    | 7, _ => rfl
    | 8, _ => rfl
    | 9, h => absurd rfl h
    | 10, _ => rfl
    | 11, _ => rfl
    | 12, _ => rfl
    | _ + 13, _ => rfl)) k
theorem P_get_pm {K : zK} {X : zX} {cc : ByteArray} {own : String} {ret : Option FieldType} {nL f pc : Nat} {lo : List (Nat × Value)} {st : List Value} {idx : Nat} {c : CS} {pm : Int → Nat} {my : Int} (O : zO K X cc own ret nL f) (hN : kN K = 85) (hw : Cond.fieldLink own idx RX0 (TX0 0).2.1 (TX0 0).2.2.1 ∈ zTB) (hd : decode cc pc = .ok (.getfield idx, 3)) (k : G K X nL (pc + 3) lo (.ref (kad K 12) :: st) (layC K (wP c (pm, my)))) : G K X nL pc lo (.ref (kad K 11) :: st) (layC K (wP c (pm, my))) :=
  r_get O (by rw [hN]; decide) (show layC K (wP c (pm, my)) 11 = .inr (0, [.ref (kad K 12), .int (iI my)]) from rfl) zCl0 hw (by decide) rfl hd k
theorem P_ld_pm {K : zK} {X : zX} {cc : ByteArray} {own : String} {ret : Option FieldType} {nL f pc : Nat} {lo : List (Nat × Value)} {st : List Value} {z : Int} {c : CS} {pm : Int → Nat} {my : Int} (O : zO K X cc own ret nL f) (hN : kN K = 85) (h0 : 0 ≤ z) (h1 : z < 2) (hd : decode cc pc = .ok (.aaload, 1)) (k : G K X nL (pc + 1) lo (.ref (kad K (6 * pm z + 13)) :: st) (layC K (wP c (pm, my)))) : G K X nL pc lo (.int (iI z) :: .ref (kad K 12) :: st) (layC K (wP c (pm, my))) :=
  r_aald O (by rw [hN]; decide) (show layC K (wP c (pm, my)) 12 = .inl (kS K, 2, .inr (.inr (.inr (.inr (rI K (pileC pm)))))) from rfl) h0 h1 (by decide) hd k
theorem P_st_pm {K : zK} {X : zX} {cc : ByteArray} {own : String} {ret : Option FieldType} {nL f pc : Nat} {lo : List (Nat × Value)} {st : List Value} {z : Int} {j : Nat} {c : CS} {pm : Int → Nat} {my : Int} (O : zO K X cc own ret nL f) (hN : kN K = 85) (hj : j < 12) (h0 : 0 ≤ z) (h1 : z < 2) (hd : decode cc pc = .ok (.aastore, 1)) (k : G K X nL (pc + 1) lo st (layC K (wP c (uN' pm z j, my)))) : G K X nL pc lo (.ref (kad K (6 * j + 13)) :: .int (iI z) :: .ref (kad K 12) :: st) (layC K (wP c (pm, my))) := by
  refine r_aast O (by rw [hN]; decide) (show layC K (wP c (pm, my)) 12 = .inl (kS K, 2, .inr (.inr (.inr (.inr (rI K (pileC pm)))))) from rfl) (by rw [hN]; omega) (lay_j0 K _ j) h0 h1 (by decide) hd ?_
  rw [pileC_up]
  exact G_ct (zup_lay (c' := wP c (uN' pm z j, my)) rfl (fun k hk => match k, hk with
    | 0, _ => rfl
    | 1, _ => rfl
    | 2, _ => rfl
    | 3, _ => rfl
    | 4, _ => rfl
    | 5, _ => rfl
    | 6, _ => rfl
    | 7, _ => rfl
    | 8, _ => rfl
    | 9, _ => rfl
    | 10, _ => rfl
    | 11, _ => rfl
    | 12, h => absurd rfl h
    | _ + 13, _ => rfl)) k
theorem P_len_pm {K : zK} {X : zX} {cc : ByteArray} {own : String} {ret : Option FieldType} {nL f pc : Nat} {lo : List (Nat × Value)} {st : List Value} {c : CS} {pm : Int → Nat} {my : Int} (O : zO K X cc own ret nL f) (hN : kN K = 85) (hd : decode cc pc = .ok (.arraylength, 1)) (k : G K X nL (pc + 1) lo (.int (iI 2) :: st) (layC K (wP c (pm, my)))) : G K X nL pc lo (.ref (kad K 12) :: st) (layC K (wP c (pm, my))) :=
  r_alen (n := 2) O (by rw [hN]; decide) (show layC K (wP c (pm, my)) 12 = .inl (kS K, 2, .inr (.inr (.inr (.inr (rI K (pileC pm)))))) from rfl) (Or.inr (Or.inr rfl)) rfl hd k
theorem P_get_my {K : zK} {X : zX} {cc : ByteArray} {own : String} {ret : Option FieldType} {nL f pc : Nat} {lo : List (Nat × Value)} {st : List Value} {idx : Nat} {c : CS} {pm : Int → Nat} {my : Int} (O : zO K X cc own ret nL f) (hN : kN K = 85) (hw : Cond.fieldLink own idx RX0 (TX0 1).2.1 (TX0 1).2.2.1 ∈ zTB) (hd : decode cc pc = .ok (.getfield idx, 3)) (k : G K X nL (pc + 3) lo (.int (iI my) :: st) (layC K (wP c (pm, my)))) : G K X nL pc lo (.ref (kad K 11) :: st) (layC K (wP c (pm, my))) :=
  r_get O (by rw [hN]; decide) (show layC K (wP c (pm, my)) 11 = .inr (0, [.ref (kad K 12), .int (iI my)]) from rfl) zCl0 hw (by decide) rfl hd k
theorem P_put_my {K : zK} {X : zX} {cc : ByteArray} {own : String} {ret : Option FieldType} {nL f pc : Nat} {lo : List (Nat × Value)} {st : List Value} {idx : Nat} {x : Int} {c : CS} {pm : Int → Nat} {my : Int} (O : zO K X cc own ret nL f) (hN : kN K = 85) (hw : Cond.fieldLink own idx RX0 (TX0 1).2.1 (TX0 1).2.2.1 ∈ zTB) (hd : decode cc pc = .ok (.putfield idx, 3)) (k : G K X nL (pc + 3) lo st (layC K (wP c (pm, x)))) : G K X nL pc lo (.int (iI x) :: .ref (kad K 11) :: st) (layC K (wP c (pm, my))) := by
  refine r_put (ty := .int) O (by rw [hN]; decide) (show layC K (wP c (pm, my)) 11 = .inr (0, [.ref (kad K 12), .int (iI my)]) from rfl) zCl0 hw (by decide) rfl (by decide +kernel) rfl rfl (Nat.le_of_ble_eq_true rfl) hd ?_
  exact G_ct (zup_lay (c' := wP c (pm, x)) rfl (fun k hk => match k, hk with
    | 0, _ => rfl
    | 1, _ => rfl
    | 2, _ => rfl
    | 3, _ => rfl
    | 4, _ => rfl
    | 5, _ => rfl
    | 6, _ => rfl
    | 7, _ => rfl
    | 8, _ => rfl
    | 9, _ => rfl
    | 10, _ => rfl
    | 11, h => absurd rfl h
    | 12, _ => rfl
    | _ + 13, _ => rfl)) k
theorem O_get_0 {K : zK} {X : zX} {cc : ByteArray} {own : String} {ret : Option FieldType} {nL f pc : Nat} {lo : List (Nat × Value)} {st : List Value} {idx : Nat} {c : CS} (O : zO K X cc own ret nL f) (hN : kN K = 85) (hw : Cond.fieldLink own idx RX5 (TX5 0).2.1 (TX5 0).2.2.1 ∈ zTB) (hd : decode cc pc = .ok (.getfield idx, 3)) (k : G K X nL (pc + 3) lo (.ref (kad K 1) :: st) (layC K c)) : G K X nL pc lo (.ref (kad K 0) :: st) (layC K c) :=
  r_get O (by rw [hN]; decide) (show layC K c 0 = .inr (5, [.ref (kad K 1), .ref (kad K (6 * 0 + 13)), .ref (kad K (6 * 1 + 13)), .ref (kad K 4), .ref (kad K 6), .ref (kad K 9), .ref (kad K 11)]) from rfl) zCl5 hw (by decide) rfl hd k
theorem O_get_1 {K : zK} {X : zX} {cc : ByteArray} {own : String} {ret : Option FieldType} {nL f pc : Nat} {lo : List (Nat × Value)} {st : List Value} {idx : Nat} {c : CS} (O : zO K X cc own ret nL f) (hN : kN K = 85) (hw : Cond.fieldLink own idx RX5 (TX5 1).2.1 (TX5 1).2.2.1 ∈ zTB) (hd : decode cc pc = .ok (.getfield idx, 3)) (k : G K X nL (pc + 3) lo (.ref (kad K (6 * 0 + 13)) :: st) (layC K c)) : G K X nL pc lo (.ref (kad K 0) :: st) (layC K c) :=
  r_get O (by rw [hN]; decide) (show layC K c 0 = .inr (5, [.ref (kad K 1), .ref (kad K (6 * 0 + 13)), .ref (kad K (6 * 1 + 13)), .ref (kad K 4), .ref (kad K 6), .ref (kad K 9), .ref (kad K 11)]) from rfl) zCl5 hw (by decide) rfl hd k
theorem O_get_2 {K : zK} {X : zX} {cc : ByteArray} {own : String} {ret : Option FieldType} {nL f pc : Nat} {lo : List (Nat × Value)} {st : List Value} {idx : Nat} {c : CS} (O : zO K X cc own ret nL f) (hN : kN K = 85) (hw : Cond.fieldLink own idx RX5 (TX5 2).2.1 (TX5 2).2.2.1 ∈ zTB) (hd : decode cc pc = .ok (.getfield idx, 3)) (k : G K X nL (pc + 3) lo (.ref (kad K (6 * 1 + 13)) :: st) (layC K c)) : G K X nL pc lo (.ref (kad K 0) :: st) (layC K c) :=
  r_get O (by rw [hN]; decide) (show layC K c 0 = .inr (5, [.ref (kad K 1), .ref (kad K (6 * 0 + 13)), .ref (kad K (6 * 1 + 13)), .ref (kad K 4), .ref (kad K 6), .ref (kad K 9), .ref (kad K 11)]) from rfl) zCl5 hw (by decide) rfl hd k
theorem O_get_3 {K : zK} {X : zX} {cc : ByteArray} {own : String} {ret : Option FieldType} {nL f pc : Nat} {lo : List (Nat × Value)} {st : List Value} {idx : Nat} {c : CS} (O : zO K X cc own ret nL f) (hN : kN K = 85) (hw : Cond.fieldLink own idx RX5 (TX5 3).2.1 (TX5 3).2.2.1 ∈ zTB) (hd : decode cc pc = .ok (.getfield idx, 3)) (k : G K X nL (pc + 3) lo (.ref (kad K 4) :: st) (layC K c)) : G K X nL pc lo (.ref (kad K 0) :: st) (layC K c) :=
  r_get O (by rw [hN]; decide) (show layC K c 0 = .inr (5, [.ref (kad K 1), .ref (kad K (6 * 0 + 13)), .ref (kad K (6 * 1 + 13)), .ref (kad K 4), .ref (kad K 6), .ref (kad K 9), .ref (kad K 11)]) from rfl) zCl5 hw (by decide) rfl hd k
theorem O_get_4 {K : zK} {X : zX} {cc : ByteArray} {own : String} {ret : Option FieldType} {nL f pc : Nat} {lo : List (Nat × Value)} {st : List Value} {idx : Nat} {c : CS} (O : zO K X cc own ret nL f) (hN : kN K = 85) (hw : Cond.fieldLink own idx RX5 (TX5 4).2.1 (TX5 4).2.2.1 ∈ zTB) (hd : decode cc pc = .ok (.getfield idx, 3)) (k : G K X nL (pc + 3) lo (.ref (kad K 6) :: st) (layC K c)) : G K X nL pc lo (.ref (kad K 0) :: st) (layC K c) :=
  r_get O (by rw [hN]; decide) (show layC K c 0 = .inr (5, [.ref (kad K 1), .ref (kad K (6 * 0 + 13)), .ref (kad K (6 * 1 + 13)), .ref (kad K 4), .ref (kad K 6), .ref (kad K 9), .ref (kad K 11)]) from rfl) zCl5 hw (by decide) rfl hd k
theorem O_get_5 {K : zK} {X : zX} {cc : ByteArray} {own : String} {ret : Option FieldType} {nL f pc : Nat} {lo : List (Nat × Value)} {st : List Value} {idx : Nat} {c : CS} (O : zO K X cc own ret nL f) (hN : kN K = 85) (hw : Cond.fieldLink own idx RX5 (TX5 5).2.1 (TX5 5).2.2.1 ∈ zTB) (hd : decode cc pc = .ok (.getfield idx, 3)) (k : G K X nL (pc + 3) lo (.ref (kad K 9) :: st) (layC K c)) : G K X nL pc lo (.ref (kad K 0) :: st) (layC K c) :=
  r_get O (by rw [hN]; decide) (show layC K c 0 = .inr (5, [.ref (kad K 1), .ref (kad K (6 * 0 + 13)), .ref (kad K (6 * 1 + 13)), .ref (kad K 4), .ref (kad K 6), .ref (kad K 9), .ref (kad K 11)]) from rfl) zCl5 hw (by decide) rfl hd k
theorem O_get_6 {K : zK} {X : zX} {cc : ByteArray} {own : String} {ret : Option FieldType} {nL f pc : Nat} {lo : List (Nat × Value)} {st : List Value} {idx : Nat} {c : CS} (O : zO K X cc own ret nL f) (hN : kN K = 85) (hw : Cond.fieldLink own idx RX5 (TX5 6).2.1 (TX5 6).2.2.1 ∈ zTB) (hd : decode cc pc = .ok (.getfield idx, 3)) (k : G K X nL (pc + 3) lo (.ref (kad K 11) :: st) (layC K c)) : G K X nL pc lo (.ref (kad K 0) :: st) (layC K c) :=
  r_get O (by rw [hN]; decide) (show layC K c 0 = .inr (5, [.ref (kad K 1), .ref (kad K (6 * 0 + 13)), .ref (kad K (6 * 1 + 13)), .ref (kad K 4), .ref (kad K 6), .ref (kad K 9), .ref (kad K 11)]) from rfl) zCl5 hw (by decide) rfl hd k
theorem A_get_T_le {K : zK} {X : zX} {cc : ByteArray} {own : String} {ret : Option FieldType} {nL f pc : Nat} {lo : List (Nat × Value)} {st : List Value} {idx : Nat} {c : CS} (O : zO K X cc own ret nL f) (hN : kN K = 85) (hw : Cond.fieldLink own idx RX4 (TX4 2).2.1 (TX4 2).2.2.1 ∈ zTB) (hd : decode cc pc = .ok (.getfield idx, 3)) (k : G K X nL (pc + 3) lo (.int (iI c.2.1.2.2) :: st) (layC K c)) : G K X nL pc lo (.ref (kad K 1) :: st) (layC K c) :=
  r_get O (by rw [hN]; decide) (show layC K c 1 = .inr (4, [.ref (kad K 2), .ref (kad K 3), .int (iI c.2.1.2.2)]) from rfl) zCl4 hw (by decide) rfl hd k
theorem A_get_V_my {K : zK} {X : zX} {cc : ByteArray} {own : String} {ret : Option FieldType} {nL f pc : Nat} {lo : List (Nat × Value)} {st : List Value} {idx : Nat} {c : CS} (O : zO K X cc own ret nL f) (hN : kN K = 85) (hw : Cond.fieldLink own idx RX2 (TX2 2).2.1 (TX2 2).2.2.1 ∈ zTB) (hd : decode cc pc = .ok (.getfield idx, 3)) (k : G K X nL (pc + 3) lo (.int (iI c.2.2.2.1.2.2) :: st) (layC K c)) : G K X nL pc lo (.ref (kad K 6) :: st) (layC K c) :=
  r_get O (by rw [hN]; decide) (show layC K c 6 = .inr (2, [.ref (kad K 7), .ref (kad K 8), .int (iI c.2.2.2.1.2.2)]) from rfl) zCl2 hw (by decide) rfl hd k
theorem A_get_U_my {K : zK} {X : zX} {cc : ByteArray} {own : String} {ret : Option FieldType} {nL f pc : Nat} {lo : List (Nat × Value)} {st : List Value} {idx : Nat} {c : CS} (O : zO K X cc own ret nL f) (hN : kN K = 85) (hw : Cond.fieldLink own idx RX0 (TX0 1).2.1 (TX0 1).2.2.1 ∈ zTB) (hd : decode cc pc = .ok (.getfield idx, 3)) (k : G K X nL (pc + 3) lo (.int (iI c.2.2.2.2.1.2) :: st) (layC K c)) : G K X nL pc lo (.ref (kad K 9) :: st) (layC K c) :=
  r_get O (by rw [hN]; decide) (show layC K c 9 = .inr (0, [.ref (kad K 10), .int (iI c.2.2.2.2.1.2)]) from rfl) zCl0 hw (by decide) rfl hd k
theorem A_get_P_my {K : zK} {X : zX} {cc : ByteArray} {own : String} {ret : Option FieldType} {nL f pc : Nat} {lo : List (Nat × Value)} {st : List Value} {idx : Nat} {c : CS} (O : zO K X cc own ret nL f) (hN : kN K = 85) (hw : Cond.fieldLink own idx RX0 (TX0 1).2.1 (TX0 1).2.2.1 ∈ zTB) (hd : decode cc pc = .ok (.getfield idx, 3)) (k : G K X nL (pc + 3) lo (.int (iI c.2.2.2.2.2.2) :: st) (layC K c)) : G K X nL pc lo (.ref (kad K 11) :: st) (layC K c) :=
  r_get O (by rw [hN]; decide) (show layC K c 11 = .inr (0, [.ref (kad K 12), .int (iI c.2.2.2.2.2.2)]) from rfl) zCl0 hw (by decide) rfl hd k
end
section
def hotV (k : Int) : Int := if k = 1 then 4 else if k = 2 then 7 else if k = 3 then 8 else 9
def spoonV (sa he k sp be : Int) : Int := if be < sa ∨ hotV k < he then 0 else if k = 2 then 2 * sp else if k = 3 then 1 else sp
def shareV (v : SV) (i : Int) : Int := min (min (spoonV (qsa v) (qhe v) (qkd v i) (qsp v i) (qbe v i)) (qhu v i)) (qam v)
/-- a member whose numbers are such as the document tells -/
def okM (k s h b : Int) : Prop := (0 ≤ k ∧ k ≤ 3) ∧ (1 ≤ s ∧ s ≤ 9) ∧ (0 ≤ h ∧ h ≤ 60) ∧ (0 ≤ b ∧ b ≤ 9)
/-- a sitting whose numbers are such as the document tells -/
def okV (v : SV) : Prop := (0 ≤ qn v ∧ qn v ≤ 7) ∧ (0 ≤ qam v ∧ qam v ≤ 99) ∧ (0 ≤ qhe v ∧ qhe v ≤ 9) ∧ (0 ≤ qsa v ∧ qsa v ≤ 9) ∧ (1 ≤ qro v ∧ qro v ≤ 20) ∧ (1 ≤ qfa v ∧ qfa v ≤ 20) ∧ ∀ i : Int, 0 ≤ i → i < qn v → okM (qkd v i) (qsp v i) (qhu v i) (qbe v i)
def outV (a l h : Int) : Int := if a < l ∨ h < a then 1 else 0
theorem nar01 {z : Int} (h : z = 0 ∨ z = 1) : narrow .boolean (.int (iI z)) = .int (iI z) := by
  rcases h with h | h <;> subst h <;> rfl
theorem hotV_b (k : Int) : 4 ≤ hotV k ∧ hotV k ≤ 9 := by unfold hotV; split <;> (try split) <;> (try split) <;> omega
theorem spoonV_b {sa he k sp be : Int} (h : 1 ≤ sp ∧ sp ≤ 9) : 0 ≤ spoonV sa he k sp be ∧ spoonV sa he k sp be ≤ 18 := by unfold spoonV; split <;> (try split) <;> (try split) <;> omega
theorem iI_div {a b : Int} (ha : 0 ≤ a) (ha2 : a < 2147483648) (hb : 0 < b) (hb2 : b < 2147483648) : iI a / iI b = iI (a / b) := by
  obtain ⟨x, rfl⟩ := Int.eq_ofNat_of_zero_le ha
  obtain ⟨y, rfl⟩ := Int.eq_ofNat_of_zero_le (Int.le_of_lt hb)
  rw [← iI_nat, ← iI_nat]
  exact (pk_div (by omega) (by omega) (by omega)).trans (iI_nat (x / y))
theorem iI_rem {a b : Int} (ha : 0 ≤ a) (ha2 : a < 2147483648) (hb : 0 < b) (hb2 : b < 2147483648) : iI a - iI a / iI b * iI b = iI (a % b) := by
  obtain ⟨x, rfl⟩ := Int.eq_ofNat_of_zero_le ha
  obtain ⟨y, rfl⟩ := Int.eq_ofNat_of_zero_le (Int.le_of_lt hb)
  rw [← iI_nat, ← iI_nat]
  exact (pk_rem (by omega) (by omega) (by omega)).trans (iI_nat (x % y))
theorem iI_ne0 {b : Int} (hb : 0 < b) (hb2 : b < 2147483648) : ¬ iI b = 0 := by
  intro h
  have h2 := (iI_inj (a := b) (b := 0) ⟨by omega, by omega⟩ ⟨by decide, by decide⟩).mp h
  omega
theorem shareV_b {v : SV} (hv : okV v) {i : Int} (h0 : 0 ≤ i) (h1 : i < qn v) : 0 ≤ shareV v i ∧ shareV v i ≤ qam v ∧ shareV v i ≤ qhu v i := by
  obtain ⟨hn, ham, hhe, hsa, hro, hfa, hm⟩ := hv
  have hi := hm i h0 h1
  have hb := spoonV_b (sa := qsa v) (he := qhe v) (k := qkd v i) (be := qbe v i) hi.2.1
  have h3 := hi.2.2.1
  unfold shareV
  omega
/-- member i eats -/
def eatS (p : SV × Int) (i : Int) : SV × Int :=
  ((qn p.1, qam p.1 - shareV p.1 i, qhe p.1, qsa p.1, qro p.1, qfa p.1, qkd p.1, qsp p.1, uI (qhu p.1) i (qhu p.1 i - shareV p.1 i), qbe p.1, uI (qea p.1) i (qea p.1 i + shareV p.1 i)), if 0 < shareV p.1 i ∧ shareV p.1 i = qam p.1 then i else p.2)
def eatN (v : SV) : Nat → SV × Int
  | 0 => (v, -4)
  | k + 1 => eatS (eatN v k) (k : Int)
def waitV (v : SV) : SV := (qn v, qam v, max (qhe v - 1) 0, qsa v, qro v, qfa v, qkd v, qsp v, qhu v, qbe v, qea v)
def saltV (v : SV) : SV := (qn v, qam v, qhe v, min (qsa v + 1) 9, qro v, qfa v, qkd v, qsp v, qhu v, qbe v, qea v)
def cookV (v : SV) (a : Int) : SV := (qn v, a, 9, qsa v, qro v, qfa v, qkd v, qsp v, qhu v, qbe v, qea v)
def clearV (v : SV) : SV := (0, 30, 4, 1, 5, 6, qkd v, qsp v, qhu v, qbe v, qea v)
def exchV (v : SV) (i k : Int) : SV := (qn v, qam v, qhe v, qsa v, qro v, qfa v, uI (uI (qkd v) i (qkd v k)) k (qkd v i), uI (uI (qsp v) i (qsp v k)) k (qsp v i), qhu v, qbe v, qea v)
/-- what takeOver leaves in v of w -/
def cpV (w v : SV) : SV := (qn w, qam w, qhe w, qsa w, qro w, qfa w, cpI (qkd w) (qkd v) 7, cpI (qsp w) (qsp v) 7, cpI (qhu w) (qhu v) 7, cpI (qbe w) (qbe v) 7, cpI (qea w) (qea v) 7)
def roundV (v : SV) : SV × Int := (waitV (eatN v (qn v).toNat).1, (eatN v (qn v).toNat).2)
/-- k rounds, and who scraped last in them -/
def roundsV (v : SV) : Nat → SV × Int
  | 0 => (v, -4)
  | k + 1 => ((roundV (roundsV v k).1).1, if (roundV (roundsV v k).1).2 = -4 then (roundsV v k).2 else (roundV (roundsV v k).1).2)
def fastN (v : SV) : Nat → Int → Int
  | 0 => qhu v
  | k + 1 => uI (fastN v k) (k : Int) (min (fastN v k (k : Int) + qfa v) 60)
def fastV (v : SV) : SV := (qn v, qam v, 0, qsa v, qro v, qfa v, qkd v, qsp v, fastN v (qn v).toNat, qbe v, qea v)
def sumI (g : Int → Int) : Nat → Int
  | 0 => 0
  | k + 1 => sumI g k + g (k : Int)
/-- what member i would eat in k rounds of a pot that is never empty -/
def reachN (v : SV) (i : Int) : Nat → Int
  | 0 => 0
  | k + 1 => reachN v i k + min (spoonV (qsa v) (qhe v - (k : Int)) (qkd v i) (qsp v i) (qbe v i)) (qhu v i - reachN v i k)
def reachV (v : SV) (i : Int) : Int := reachN v i (qro v).toNat
theorem reachN_b {v : SV} {i : Int} (hs : 1 ≤ qsp v i ∧ qsp v i ≤ 9) (hu : 0 ≤ qhu v i) (k : Nat) : 0 ≤ reachN v i k ∧ reachN v i k ≤ qhu v i := by
  induction k with
  | zero => exact ⟨Int.le_refl _, hu⟩
  | succ k ih =>
    have hb := spoonV_b (sa := qsa v) (he := qhe v - (k : Int)) (k := qkd v i) (be := qbe v i) hs
    unfold reachN
    omega
theorem reachV_b {v : SV} (hv : okV v) {i : Int} (h0 : 0 ≤ i) (h1 : i < qn v) : 0 ≤ reachV v i ∧ reachV v i ≤ 60 := by
  have hi := hv.2.2.2.2.2.2 i h0 h1
  have hb := reachN_b hi.2.1 hi.2.2.1.1 (qro v).toNat
  have h3 := hi.2.2.1.2
  unfold reachV
  omega
def reachA (v : SV) : Nat → Int
  | 0 => 0
  | k + 1 => reachA v k + reachV v (k : Int)
theorem reachA_b {v : SV} (hv : okV v) (k : Nat) (hk : (k : Int) ≤ qn v) : 0 ≤ reachA v k ∧ reachA v k ≤ 60 * k := by
  induction k with
  | zero => exact ⟨Int.le_refl _, by unfold reachA; omega⟩
  | succ k ih =>
    have hb := reachV_b hv (i := (k : Int)) (by omega) (by omega)
    have := ih (by omega)
    unfold reachA
    omega
def passV (v : SV) : Prop := qam v ≤ reachA v (qn v).toNat
theorem uI_ok {p : Int → Prop} {g : Int → Int} {k v : Int} : (∀ i, (i = k → p i) → True) → True := fun _ => trivial
theorem okV_eatS {v : SV} (hv : okV v) {i : Int} (h0 : 0 ≤ i) (h1 : i < qn v) (s : Int) : okV (eatS (v, s) i).1 := by
  have hb := shareV_b hv h0 h1
  obtain ⟨hn, ham, hhe, hsa, hro, hfa, hm⟩ := hv
  refine ⟨hn, ⟨?_, ?_⟩, hhe, hsa, hro, hfa, fun y y0 y1 => ?_⟩
  · show 0 ≤ qam v - shareV v i; omega
  · show qam v - shareV v i ≤ 99; omega
  · have hy := hm y y0 y1
    refine ⟨hy.1, hy.2.1, ?_, hy.2.2.2⟩
    show 0 ≤ uI (qhu v) i (qhu v i - shareV v i) y ∧ uI (qhu v) i (qhu v i - shareV v i) y ≤ 60
    have h3 := hy.2.2.1
    unfold uI
    by_cases e : y = i
    · subst e
      rw [if_pos rfl]
      omega
    · rw [if_neg e]
      exact h3
theorem eatN_n (v : SV) (k : Nat) : qn (eatN v k).1 = qn v := by
  induction k with
  | zero => rfl
  | succ k ih => exact ih
theorem okV_eatN {v : SV} (hv : okV v) (k : Nat) (hk : (k : Int) ≤ qn v) : okV (eatN v k).1 := by
  induction k with
  | zero => exact hv
  | succ k ih => exact okV_eatS (ih (by omega)) (by omega) (by rw [eatN_n]; omega) _
theorem okV_waitV {v : SV} (hv : okV v) : okV (waitV v) := by
  obtain ⟨hn, ham, hhe, hsa, hro, hfa, hm⟩ := hv
  refine ⟨hn, ham, ⟨?_, ?_⟩, hsa, hro, hfa, hm⟩
  · show 0 ≤ max (qhe v - 1) 0; omega
  · show max (qhe v - 1) 0 ≤ 9; omega
theorem okV_roundV {v : SV} (hv : okV v) : okV (roundV v).1 := okV_waitV (okV_eatN hv _ (by have := hv.1; omega))
theorem okV_roundsV {v : SV} (hv : okV v) (k : Nat) : okV (roundsV v k).1 := by
  induction k with
  | zero => exact hv
  | succ k ih => exact okV_roundV ih
theorem scr_eatN (v : SV) (k : Nat) : -4 ≤ (eatN v k).2 ∧ (eatN v k).2 < (k : Int) ∧ ((eatN v k).2 = -4 ∨ 0 ≤ (eatN v k).2) := by
  induction k with
  | zero => exact ⟨Int.le_refl _, by show (-4 : Int) < 0; decide, Or.inl rfl⟩
  | succ k ih =>
    show -4 ≤ (if _ then (k : Int) else (eatN v k).2) ∧ (if _ then (k : Int) else (eatN v k).2) < _ ∧ _
    split
    · rename_i h
      refine ⟨by omega, by omega, Or.inr ?_⟩
      show 0 ≤ (if _ then (k : Int) else (eatN v k).2)
      rw [if_pos h]
      omega
    · rename_i h
      refine ⟨by omega, by omega, ?_⟩
      show (if _ then (k : Int) else (eatN v k).2) = -4 ∨ 0 ≤ (if _ then (k : Int) else (eatN v k).2)
      rw [if_neg h]
      exact ih.2.2
theorem scr_roundV {v : SV} (hv : okV v) : -4 ≤ (roundV v).2 ∧ (roundV v).2 < 7 := by
  have h := scr_eatN v (qn v).toNat
  have := hv.1
  unfold roundV
  dsimp only
  omega
theorem scr_roundsV {v : SV} (hv : okV v) (k : Nat) : -4 ≤ (roundsV v k).2 ∧ (roundsV v k).2 < 7 := by
  induction k with
  | zero => exact ⟨(by decide : (-4 : Int) ≤ -4), (by decide : (-4 : Int) < 7)⟩
  | succ k ih =>
    have h := scr_roundV (okV_roundsV hv k)
    unfold roundsV
    dsimp only
    split <;> omega
theorem outV_c {z a l h : Int} (e : z = outV a l h) : (z = 1 ∧ (a < l ∨ h < a)) ∨ (z = 0 ∧ l ≤ a ∧ a ≤ h) := by
  unfold outV at e
  split at e <;> omega
theorem eatS_y {v : SV} {s i : Int} (h : 0 < shareV v i ∧ shareV v i = qam v) : eatS (v, s) i = ((qn v, qam v - shareV v i, qhe v, qsa v, qro v, qfa v, qkd v, qsp v, uI (qhu v) i (qhu v i - shareV v i), qbe v, uI (qea v) i (qea v i + shareV v i)), i) := by
  unfold eatS
  rw [if_pos h]
theorem eatS_n {v : SV} {s i : Int} (h : ¬ (0 < shareV v i ∧ shareV v i = qam v)) : eatS (v, s) i = ((qn v, qam v - shareV v i, qhe v, qsa v, qro v, qfa v, qkd v, qsp v, uI (qhu v) i (qhu v i - shareV v i), qbe v, uI (qea v) i (qea v i + shareV v i)), s) := by
  unfold eatS
  rw [if_neg h]
theorem roundsV_ro (v : SV) (k : Nat) : qro (roundsV v k).1 = qro v := by
  have e : ∀ (u : SV) (m : Nat), qro (eatN u m).1 = qro u := by
    intro u m
    induction m with
    | zero => rfl
    | succ m ih => exact ih
  induction k with
  | zero => rfl
  | succ k ih => exact (e _ _).trans ih
/-- behind how many rounds the pot is empty -/
def untilP (v : SV) (z : Int) : Prop := (∃ k : Nat, (k : Int) ≤ qro v ∧ qam (roundsV v k).1 = 0 ∧ (∀ m : Nat, m < k → qam (roundsV v m).1 ≠ 0) ∧ z = (k : Int)) ∨ ((∀ m : Nat, (m : Int) ≤ qro v → qam (roundsV v m).1 ≠ 0) ∧ z = -4)
def passI (v : SV) : Int := if qam v ≤ reachA v (qn v).toNat then 1 else 0
theorem fastN_eq (v : SV) (k : Nat) (y : Int) : fastN v k y = if 0 ≤ y ∧ y < (k : Int) then min (qhu v y + qfa v) 60 else qhu v y := by
  induction k with
  | zero => rw [if_neg (by omega)]; rfl
  | succ k ih =>
    show uI (fastN v k) (k : Int) (min (fastN v k (k : Int) + qfa v) 60) y = _
    unfold uI
    by_cases h : y = (k : Int)
    · have e : fastN v k (k : Int) = qhu v (k : Int) := by rw [← h, ih, if_neg (by omega)]
      rw [if_pos h, if_pos (by omega), e, h]
    · rw [if_neg h, ih]
      by_cases h2 : 0 ≤ y ∧ y < (k : Int)
      · rw [if_pos h2, if_pos (by omega)]
      · rw [if_neg h2, if_neg (by omega)]
theorem okV_fastV {v : SV} (hv : okV v) : okV (fastV v) := by
  obtain ⟨hn, ham, hhe, hsa, hro, hfa, hm⟩ := hv
  refine ⟨hn, ham, ⟨(by decide : (0 : Int) ≤ 0), (by decide : (0 : Int) ≤ 9)⟩, hsa, hro, hfa, fun y y0 y1 => ?_⟩
  have hy := hm y y0 y1
  refine ⟨hy.1, hy.2.1, ?_, hy.2.2.2⟩
  show 0 ≤ fastN v (qn v).toNat y ∧ fastN v (qn v).toNat y ≤ 60
  rw [fastN_eq]
  have h3 := hy.2.2.1
  split <;> omega
def liveV (v : SV) (d : Int) : SV := if d % 4 = 0 then (roundV v).1 else if d % 4 = 1 then (if qam v < d / 4 % 60 then cookV v (d / 4 % 60) else v) else if d % 4 = 2 then (if d / 4 % 3 = 0 then saltV v else v) else fastV v
theorem okV_cookV {v : SV} (hv : okV v) {a : Int} (h0 : 0 ≤ a) (h1 : a ≤ 99) : okV (cookV v a) := ⟨hv.1, ⟨h0, h1⟩, ⟨(by decide : (0 : Int) ≤ 9), (by decide : (9 : Int) ≤ 9)⟩, hv.2.2.2⟩
theorem okV_saltV {v : SV} (hv : okV v) : okV (saltV v) := by
  obtain ⟨hn, ham, hhe, hsa, hro, hfa, hm⟩ := hv
  refine ⟨hn, ham, hhe, ⟨?_, ?_⟩, hro, hfa, hm⟩
  · show 0 ≤ min (qsa v + 1) 9; omega
  · show min (qsa v + 1) 9 ≤ 9; omega
theorem okV_liveV {v : SV} (hv : okV v) (d : Int) : okV (liveV v d) := by
  unfold liveV
  split
  · exact okV_roundV hv
  · split
    · split
      · exact okV_cookV hv (by omega) (by omega)
      · exact hv
    · split
      · split
        · exact okV_saltV hv
        · exact hv
      · exact okV_fastV hv
theorem okV_cpV {w v : SV} (hw : okV w) : okV (cpV w v) := by
  obtain ⟨hn, ham, hhe, hsa, hro, hfa, hm⟩ := hw
  refine ⟨hn, ham, hhe, hsa, hro, hfa, fun y y0 y1 => ?_⟩
  have hy := hm y y0 y1
  have y2 : y < qn w := y1
  have e : ∀ f g : Int → Int, cpI f g 7 y = f y := fun f g => by unfold cpI; rw [if_pos (by omega)]
  show okM (cpI (qkd w) (qkd v) 7 y) (cpI (qsp w) (qsp v) 7 y) (cpI (qhu w) (qhu v) 7 y) (cpI (qbe w) (qbe v) 7 y)
  rw [e, e, e, e]
  exact hy
theorem okV_exchV {v : SV} (hv : okV v) {i k : Int} (h0 : 0 ≤ i) (h1 : i < qn v) (h2 : 0 ≤ k) (h3 : k < qn v) : okV (exchV v i k) := by
  obtain ⟨hn, ham, hhe, hsa, hro, hfa, hm⟩ := hv
  refine ⟨hn, ham, hhe, hsa, hro, hfa, fun y y0 y1 => ?_⟩
  have hy := hm y y0 y1
  have hi := hm i h0 h1
  have hk := hm k h2 h3
  show okM (uI (uI (qkd v) i (qkd v k)) k (qkd v i) y) (uI (uI (qsp v) i (qsp v k)) k (qsp v i) y) (qhu v y) (qbe v y)
  unfold uI
  by_cases e1 : y = k
  · rw [if_pos e1, if_pos e1]
    exact ⟨hi.1, hi.2.1, hy.2.2.1, hy.2.2.2⟩
  · rw [if_neg e1, if_neg e1]
    by_cases e2 : y = i
    · rw [if_pos e2, if_pos e2]
      exact ⟨hk.1, hk.2.1, hy.2.2.1, hy.2.2.2⟩
    · rw [if_neg e2, if_neg e2]
      exact hy
def memV (v : SV) (k s h b : Int) : SV := (qn v + 1, qam v, qhe v, qsa v, qro v, qfa v, uI (qkd v) (qn v) k, uI (qsp v) (qn v) s, uI (qhu v) (qn v) h, uI (qbe v) (qn v) b, uI (qea v) (qn v) 0)
end
section
set_option maxHeartbeats 4000000 in
theorem C_X5_isOutside {K : zK} (hI : zInj K) (ct : zE) (a l h : Int) (ha : zB a) (hl : zB l) (hh : zB h) : zCi K yX5_isOutside cX5_isOutside 3 (some .boolean) 0 [.int (iI a), .int (iI l), .int (iI h)] ct (fun z u => z = outV a l h ∧ u = ct) := by
  have ha1 := ha.1
  have ha2 := ha.2
  have hl1 := hl.1
  have hl2 := hl.2
  have hh1 := hh.1
  have hh2 := hh.2
  refine zCi_in hI (by decide +kernel) (Nat.le_of_ble_eq_true rfl) (fun X O hE => ?_)
  refine n_iload_n O dX5_isOutside_0 rfl ?_
  refine n_iload_n O dX5_isOutside_1 rfl ?_
  refine r_icmp_lt (tgt := 10) O ⟨by omega, by omega⟩ ⟨by omega, by omega⟩ dX5_isOutside_2 (by decide) (fun hc2 => ?_) (fun hc2 => ?_)
  · skip
    refine r_iconst O dX5_isOutside_10 ?_
    refine r_goto (tgt := 15) O dX5_isOutside_11 (by decide) ?_
    exact hE _ _ _ _ dX5_isOutside_15 (nar01 (by omega)) ⟨by unfold outV; split <;> omega, rfl⟩
  · skip
    refine n_iload_n O dX5_isOutside_5 rfl ?_
    refine n_iload_n O dX5_isOutside_6 rfl ?_
    refine r_icmp_le (tgt := 14) O ⟨by omega, by omega⟩ ⟨by omega, by omega⟩ dX5_isOutside_7 (by decide) (fun hc7 => ?_) (fun hc7 => ?_)
    · skip
      refine r_iconst O dX5_isOutside_14 ?_
      exact hE _ _ _ _ dX5_isOutside_15 (nar01 (by omega)) ⟨by unfold outV; split <;> omega, rfl⟩
    · skip
      refine r_iconst O dX5_isOutside_10 ?_
      refine r_goto (tgt := 15) O dX5_isOutside_11 (by decide) ?_
      exact hE _ _ _ _ dX5_isOutside_15 (nar01 (by omega)) ⟨by unfold outV; split <;> omega, rfl⟩
set_option maxHeartbeats 4000000 in
theorem C_X3_hottestFor {K : zK} (hI : zInj K) (ct : zE) (k : Int) (hk : zB k) : zCi K yX3_hottestFor cX3_hottestFor 1 (some .int) 0 [.int (iI k)] ct (fun z u => z = hotV k ∧ u = ct) := by
  have hk1 := hk.1
  have hk2 := hk.2
  refine zCi_in hI (by decide +kernel) (Nat.le_of_ble_eq_true rfl) (fun X O hE => ?_)
  refine n_iload_n O dX3_hottestFor_0 rfl ?_
  have hsw : k < 1 ∨ 3 < k ∨ k = 1 ∨ k = 2 ∨ k = 3 := by omega
  rcases hsw with hsw | hsw | hsw | hsw | hsw
  · skip
    refine r_tabOut (tgt := 36) O ⟨by omega, by omega⟩ dX3_hottestFor_1 (Or.inl hsw) (by decide) ?_
    refine r_bipush O (by decide +kernel) dX3_hottestFor_36 ?_
    exact hE _ _ _ _ dX3_hottestFor_38 rfl ⟨by unfold hotV; split <;> (try split) <;> (try split) <;> omega, rfl⟩
  · skip
    refine r_tabOut (tgt := 36) O ⟨by omega, by omega⟩ dX3_hottestFor_1 (Or.inr hsw) (by decide) ?_
    refine r_bipush O (by decide +kernel) dX3_hottestFor_36 ?_
    exact hE _ _ _ _ dX3_hottestFor_38 rfl ⟨by unfold hotV; split <;> (try split) <;> (try split) <;> omega, rfl⟩
  · skip
    refine r_tabIn (off := 27) (tgt := 28) O ⟨by omega, by omega⟩ dX3_hottestFor_1 (by omega) (by omega) (by rw [hsw]; rfl) (by decide) ?_
    refine r_iconst O dX3_hottestFor_28 ?_
    exact hE _ _ _ _ dX3_hottestFor_29 rfl ⟨by unfold hotV; split <;> (try split) <;> (try split) <;> omega, rfl⟩
  · skip
    refine r_tabIn (off := 29) (tgt := 30) O ⟨by omega, by omega⟩ dX3_hottestFor_1 (by omega) (by omega) (by rw [hsw]; rfl) (by decide) ?_
    refine r_bipush O (by decide +kernel) dX3_hottestFor_30 ?_
    exact hE _ _ _ _ dX3_hottestFor_32 rfl ⟨by unfold hotV; split <;> (try split) <;> (try split) <;> omega, rfl⟩
  · skip
    refine r_tabIn (off := 32) (tgt := 33) O ⟨by omega, by omega⟩ dX3_hottestFor_1 (by omega) (by omega) (by rw [hsw]; rfl) (by decide) ?_
    refine r_bipush O (by decide +kernel) dX3_hottestFor_33 ?_
    exact hE _ _ _ _ dX3_hottestFor_35 rfl ⟨by unfold hotV; split <;> (try split) <;> (try split) <;> omega, rfl⟩
set_option maxHeartbeats 4000000 in
theorem C_X3_spoonful {K : zK} (hI : zInj K) (hN : kN K = 85) (c : CS) (j : Nat) (hj : j < 12) (n am he sa ro fa : Int) (kd sp hu be ea : Int → Int) (hv : okV (n, am, he, sa, ro, fa, kd, sp, hu, be, ea)) (i h : Int) (h0 : 0 ≤ i) (h1 : i < n) (hh : zB h) : zCi K yX3_spoonful cX3_spoonful 3 (some .int) 1 [.ref (kad K (6 * j + 13)), .int (iI i), .int (iI h)] (layC K (wS c j (n, am, he, sa, ro, fa, kd, sp, hu, be, ea))) (fun z u => z = spoonV sa h (kd i) (sp i) (be i) ∧ u = (layC K (wS c j (n, am, he, sa, ro, fa, kd, sp, hu, be, ea)))) := by
  obtain ⟨hn, ham, hhe, hsa, hro, hfa, hm⟩ : (0 ≤ n ∧ n ≤ 7) ∧ (0 ≤ am ∧ am ≤ 99) ∧ (0 ≤ he ∧ he ≤ 9) ∧ (0 ≤ sa ∧ sa ≤ 9) ∧ (1 ≤ ro ∧ ro ≤ 20) ∧ (1 ≤ fa ∧ fa ≤ 20) ∧ ∀ i : Int, 0 ≤ i → i < n → okM (kd i) (sp i) (hu i) (be i) := id hv
  have hi : (0 ≤ kd i ∧ kd i ≤ 3) ∧ (1 ≤ sp i ∧ sp i ≤ 9) ∧ (0 ≤ hu i ∧ hu i ≤ 60) ∧ (0 ≤ be i ∧ be i ≤ 9) := hm i h0 h1
  have hb := hotV_b (kd i)
  have hh1 := hh.1
  have hh2 := hh.2
  refine zCi_in hI (by decide +kernel) (Nat.le_of_ble_eq_true rfl) (fun X O hE => ?_)
  refine n_aload_n O dX3_spoonful_0 rfl ?_
  refine s_get_sa O hN hj fl_X3_37 dX3_spoonful_1 ?_
  refine n_aload_n O dX3_spoonful_4 rfl ?_
  refine s_arr_be O hN hj fl_X3_21 dX3_spoonful_5 ?_
  refine n_iload_n O dX3_spoonful_8 rfl ?_
  refine s_ld_be O hN hj (by omega) (by omega) dX3_spoonful_9 ?_
  refine r_icmp_gt (tgt := 26) O ⟨by omega, by omega⟩ ⟨by omega, by omega⟩ dX3_spoonful_10 (by decide) (fun hc10 => ?_) (fun hc10 => ?_)
  · skip
    refine r_iconst O dX3_spoonful_26 ?_
    exact hE _ _ _ _ dX3_spoonful_27 rfl ⟨by unfold spoonV; split <;> (try split) <;> (try split) <;> omega, rfl⟩
  · skip
    refine n_iload_n O dX3_spoonful_13 rfl ?_
    refine n_aload_n O dX3_spoonful_14 rfl ?_
    refine s_arr_kd O hN hj fl_X3_9 dX3_spoonful_15 ?_
    refine n_iload_n O dX3_spoonful_18 rfl ?_
    refine s_ld_kd O hN hj (by omega) (by omega) dX3_spoonful_19 ?_
    refine r_callS1i O (C_X3_hottestFor hI _ _ ⟨by omega, by omega⟩) q_X3_65 (by decide) (by decide) (Nat.le_of_ble_eq_true rfl) dX3_spoonful_20 (fun zz20 zu20 hz20 => ?_)
    obtain ⟨rfl, rfl⟩ := hz20
    refine r_icmp_le (tgt := 28) O ⟨by omega, by omega⟩ ⟨by omega, by omega⟩ dX3_spoonful_23 (by decide) (fun hc23 => ?_) (fun hc23 => ?_)
    · skip
      refine n_aload_n O dX3_spoonful_28 rfl ?_
      refine s_arr_kd O hN hj fl_X3_9 dX3_spoonful_29 ?_
      refine n_iload_n O dX3_spoonful_32 rfl ?_
      refine s_ld_kd O hN hj (by omega) (by omega) dX3_spoonful_33 ?_
      have hsw : kd i = 2 ∨ kd i = 3 ∨ (kd i ≠ 2 ∧ kd i ≠ 3) := by omega
      rcases hsw with hsw | hsw | hsw
      · skip
        refine r_look (off := 26) (tgt := 60) O ⟨by omega, by omega⟩ dX3_spoonful_34 (by decide) (by rw [hsw]; decide) (by decide) ?_
        refine r_iconst O dX3_spoonful_60 ?_
        refine n_aload_n O dX3_spoonful_61 rfl ?_
        refine s_arr_sp O hN hj fl_X3_15 dX3_spoonful_62 ?_
        refine n_iload_n O dX3_spoonful_65 rfl ?_
        refine s_ld_sp O hN hj (by omega) (by omega) dX3_spoonful_66 ?_
        refine r_imul O dX3_spoonful_67 ?_
        exact hE _ _ _ _ dX3_spoonful_68 rfl ⟨by unfold spoonV; split <;> (try split) <;> (try split) <;> omega, rfl⟩
      · skip
        refine r_look (off := 35) (tgt := 69) O ⟨by omega, by omega⟩ dX3_spoonful_34 (by decide) (by rw [hsw]; decide) (by decide) ?_
        refine r_iconst O dX3_spoonful_69 ?_
        exact hE _ _ _ _ dX3_spoonful_70 rfl ⟨by unfold spoonV; split <;> (try split) <;> (try split) <;> omega, rfl⟩
      · skip
        refine r_look (off := 37) (tgt := 71) O ⟨by omega, by omega⟩ dX3_spoonful_34 (by decide) (by simp only [Op.lookupswitch.offset]; repeat rw [if_neg (by omega)]) (by decide) ?_
        refine n_aload_n O dX3_spoonful_71 rfl ?_
        refine s_arr_sp O hN hj fl_X3_15 dX3_spoonful_72 ?_
        refine n_iload_n O dX3_spoonful_75 rfl ?_
        refine s_ld_sp O hN hj (by omega) (by omega) dX3_spoonful_76 ?_
        exact hE _ _ _ _ dX3_spoonful_77 rfl ⟨by unfold spoonV; split <;> (try split) <;> (try split) <;> omega, rfl⟩
    · skip
      refine r_iconst O dX3_spoonful_26 ?_
      exact hE _ _ _ _ dX3_spoonful_27 rfl ⟨by unfold spoonV; split <;> (try split) <;> (try split) <;> omega, rfl⟩
set_option maxHeartbeats 4000000 in
theorem C_X3_share {K : zK} (hI : zInj K) (hN : kN K = 85) (c : CS) (j : Nat) (hj : j < 12) (n am he sa ro fa : Int) (kd sp hu be ea : Int → Int) (hv : okV (n, am, he, sa, ro, fa, kd, sp, hu, be, ea)) (i : Int) (h0 : 0 ≤ i) (h1 : i < n) : zCi K yX3_share cX3_share 2 (some .int) 2 [.ref (kad K (6 * j + 13)), .int (iI i)] (layC K (wS c j (n, am, he, sa, ro, fa, kd, sp, hu, be, ea))) (fun z u => z = shareV (n, am, he, sa, ro, fa, kd, sp, hu, be, ea) i ∧ u = (layC K (wS c j (n, am, he, sa, ro, fa, kd, sp, hu, be, ea)))) := by
  obtain ⟨hn, ham, hhe, hsa, hro, hfa, hm⟩ : (0 ≤ n ∧ n ≤ 7) ∧ (0 ≤ am ∧ am ≤ 99) ∧ (0 ≤ he ∧ he ≤ 9) ∧ (0 ≤ sa ∧ sa ≤ 9) ∧ (1 ≤ ro ∧ ro ≤ 20) ∧ (1 ≤ fa ∧ fa ≤ 20) ∧ ∀ i : Int, 0 ≤ i → i < n → okM (kd i) (sp i) (hu i) (be i) := id hv
  have hi : (0 ≤ kd i ∧ kd i ≤ 3) ∧ (1 ≤ sp i ∧ sp i ≤ 9) ∧ (0 ≤ hu i ∧ hu i ≤ 60) ∧ (0 ≤ be i ∧ be i ≤ 9) := hm i h0 h1
  have hb := spoonV_b (sa := sa) (he := he) (k := kd i) (be := be i) hi.2.1
  refine zCi_in hI (by decide +kernel) (Nat.le_of_ble_eq_true rfl) (fun X O hE => ?_)
  refine n_aload_n O dX3_share_0 rfl ?_
  refine n_iload_n O dX3_share_1 rfl ?_
  refine n_aload_n O dX3_share_2 rfl ?_
  refine s_get_he O hN hj fl_X3_34 dX3_share_3 ?_
  refine r_callV2i O (C_X3_spoonful hI hN _ _ hj _ _ _ _ _ _ _ _ _ _ _ hv _ _ (by omega) (by omega) ⟨by omega, by omega⟩) q_X3_56 (by rw [hN]; omega) (lay_q K _ _ _ 0 (by omega) (by decide) rfl) rfl rfl (by decide) (by decide) (Nat.le_of_ble_eq_true rfl) dX3_share_6 (fun zz6 zu6 hz6 => ?_)
  obtain ⟨rfl, rfl⟩ := hz6
  refine n_aload_n O dX3_share_9 rfl ?_
  refine s_arr_hu O hN hj fl_X3_18 dX3_share_10 ?_
  refine n_iload_n O dX3_share_13 rfl ?_
  refine s_ld_hu O hN hj (by omega) (by omega) dX3_share_14 ?_
  refine r_min O qm_X3_60 (by decide) (Nat.le_of_ble_eq_true rfl) ⟨by omega, by omega⟩ ⟨by omega, by omega⟩ dX3_share_15 ?_
  refine n_aload_n O dX3_share_18 rfl ?_
  refine s_get_am O hN hj fl_X3_31 dX3_share_19 ?_
  refine r_min O qm_X3_60 (by decide) (Nat.le_of_ble_eq_true rfl) ⟨by omega, by omega⟩ ⟨by omega, by omega⟩ dX3_share_22 ?_
  exact hE _ _ _ _ dX3_share_25 rfl ⟨rfl, rfl⟩
theorem D_X3_share {K : zK} (hI : zInj K) (hN : kN K = 85) (c : CS) (j : Nat) (hj : j < 12) (v : SV) (hv : okV v) (i : Int) (h0 : 0 ≤ i) (h1 : i < qn v) : zCi K yX3_share cX3_share 2 (some .int) 2 [.ref (kad K (6 * j + 13)), .int (iI i)] (layC K (wS c j v)) (fun z u => z = shareV v i ∧ u = layC K (wS c j v)) := by
  obtain ⟨n, am, he, sa, ro, fa, kd, sp, hu, be, ea⟩ := v
  exact C_X3_share hI hN c j hj n am he sa ro fa kd sp hu be ea hv i h0 h1
set_option maxHeartbeats 4000000 in
theorem C_X3_waitOnce {K : zK} (hI : zInj K) (hN : kN K = 85) (c : CS) (j : Nat) (hj : j < 12) (n am he sa ro fa : Int) (kd sp hu be ea : Int → Int) (hv : okV (n, am, he, sa, ro, fa, kd, sp, hu, be, ea))  : zCv K yX3_waitOnce cX3_waitOnce 1 1 [.ref (kad K (6 * j + 13))] (layC K (wS c j (n, am, he, sa, ro, fa, kd, sp, hu, be, ea))) (fun u => u = layC K (wS c j (n, am, max (he - 1) 0, sa, ro, fa, kd, sp, hu, be, ea))) := by
  obtain ⟨hn, ham, hhe, hsa, hro, hfa, hm⟩ : (0 ≤ n ∧ n ≤ 7) ∧ (0 ≤ am ∧ am ≤ 99) ∧ (0 ≤ he ∧ he ≤ 9) ∧ (0 ≤ sa ∧ sa ≤ 9) ∧ (1 ≤ ro ∧ ro ≤ 20) ∧ (1 ≤ fa ∧ fa ≤ 20) ∧ ∀ i : Int, 0 ≤ i → i < n → okM (kd i) (sp i) (hu i) (be i) := id hv
  refine zCv_in hI (by decide +kernel) (Nat.le_of_ble_eq_true rfl) (fun X O hE => ?_)
  refine n_aload_n O dX3_waitOnce_0 rfl ?_
  refine n_aload_n O dX3_waitOnce_1 rfl ?_
  refine s_get_he O hN hj fl_X3_34 dX3_waitOnce_2 ?_
  refine r_iconst O dX3_waitOnce_5 ?_
  refine r_isub O dX3_waitOnce_6 ?_
  refine r_iconst O dX3_waitOnce_7 ?_
  refine r_max O qm_X3_85 (by decide) (Nat.le_of_ble_eq_true rfl) ⟨by omega, by omega⟩ ⟨by omega, by omega⟩ dX3_waitOnce_8 ?_
  refine s_put_he O hN hj fl_X3_34 dX3_waitOnce_11 ?_
  exact hE _ _ _ dX3_waitOnce_14 rfl
theorem D_X3_waitOnce {K : zK} (hI : zInj K) (hN : kN K = 85) (c : CS) (j : Nat) (hj : j < 12) (v : SV) (hv : okV v)  : zCv K yX3_waitOnce cX3_waitOnce 1 1 [.ref (kad K (6 * j + 13))] (layC K (wS c j v)) (fun u => u = layC K (wS c j (waitV v))) := by
  obtain ⟨n, am, he, sa, ro, fa, kd, sp, hu, be, ea⟩ := v
  exact C_X3_waitOnce hI hN c j hj n am he sa ro fa kd sp hu be ea hv 
set_option maxHeartbeats 4000000 in
theorem C_X3_putSalt {K : zK} (hI : zInj K) (hN : kN K = 85) (c : CS) (j : Nat) (hj : j < 12) (n am he sa ro fa : Int) (kd sp hu be ea : Int → Int) (hv : okV (n, am, he, sa, ro, fa, kd, sp, hu, be, ea))  : zCv K yX3_putSalt cX3_putSalt 1 1 [.ref (kad K (6 * j + 13))] (layC K (wS c j (n, am, he, sa, ro, fa, kd, sp, hu, be, ea))) (fun u => u = layC K (wS c j (n, am, he, min (sa + 1) 9, ro, fa, kd, sp, hu, be, ea))) := by
  obtain ⟨hn, ham, hhe, hsa, hro, hfa, hm⟩ : (0 ≤ n ∧ n ≤ 7) ∧ (0 ≤ am ∧ am ≤ 99) ∧ (0 ≤ he ∧ he ≤ 9) ∧ (0 ≤ sa ∧ sa ≤ 9) ∧ (1 ≤ ro ∧ ro ≤ 20) ∧ (1 ≤ fa ∧ fa ≤ 20) ∧ ∀ i : Int, 0 ≤ i → i < n → okM (kd i) (sp i) (hu i) (be i) := id hv
  refine zCv_in hI (by decide +kernel) (Nat.le_of_ble_eq_true rfl) (fun X O hE => ?_)
  refine n_aload_n O dX3_putSalt_0 rfl ?_
  refine n_aload_n O dX3_putSalt_1 rfl ?_
  refine s_get_sa O hN hj fl_X3_37 dX3_putSalt_2 ?_
  refine r_iconst O dX3_putSalt_5 ?_
  refine r_iadd O dX3_putSalt_6 ?_
  refine r_bipush O (by decide +kernel) dX3_putSalt_7 ?_
  refine r_min O qm_X3_60 (by decide) (Nat.le_of_ble_eq_true rfl) ⟨by omega, by omega⟩ ⟨by omega, by omega⟩ dX3_putSalt_9 ?_
  refine s_put_sa O hN hj fl_X3_37 dX3_putSalt_12 ?_
  exact hE _ _ _ dX3_putSalt_15 rfl
theorem D_X3_putSalt {K : zK} (hI : zInj K) (hN : kN K = 85) (c : CS) (j : Nat) (hj : j < 12) (v : SV) (hv : okV v)  : zCv K yX3_putSalt cX3_putSalt 1 1 [.ref (kad K (6 * j + 13))] (layC K (wS c j v)) (fun u => u = layC K (wS c j (saltV v))) := by
  obtain ⟨n, am, he, sa, ro, fa, kd, sp, hu, be, ea⟩ := v
  exact C_X3_putSalt hI hN c j hj n am he sa ro fa kd sp hu be ea hv 
set_option maxHeartbeats 4000000 in
theorem C_X3_cookTo {K : zK} (hI : zInj K) (hN : kN K = 85) (c : CS) (j : Nat) (hj : j < 12) (n am he sa ro fa : Int) (kd sp hu be ea : Int → Int) (a : Int) : zCv K yX3_cookTo cX3_cookTo 2 0 [.ref (kad K (6 * j + 13)), .int (iI a)] (layC K (wS c j (n, am, he, sa, ro, fa, kd, sp, hu, be, ea))) (fun u => u = layC K (wS c j (n, a, 9, sa, ro, fa, kd, sp, hu, be, ea))) := by
  refine zCv_in hI (by decide +kernel) (Nat.le_of_ble_eq_true rfl) (fun X O hE => ?_)
  refine n_aload_n O dX3_cookTo_0 rfl ?_
  refine n_iload_n O dX3_cookTo_1 rfl ?_
  refine s_put_am O hN hj fl_X3_31 dX3_cookTo_2 ?_
  refine n_aload_n O dX3_cookTo_5 rfl ?_
  refine r_bipush O (by decide +kernel) dX3_cookTo_6 ?_
  refine s_put_he O hN hj fl_X3_34 dX3_cookTo_8 ?_
  exact hE _ _ _ dX3_cookTo_11 rfl
theorem D_X3_cookTo {K : zK} (hI : zInj K) (hN : kN K = 85) (c : CS) (j : Nat) (hj : j < 12) (v : SV) (a : Int) : zCv K yX3_cookTo cX3_cookTo 2 0 [.ref (kad K (6 * j + 13)), .int (iI a)] (layC K (wS c j v)) (fun u => u = layC K (wS c j (cookV v a))) := by
  obtain ⟨n, am, he, sa, ro, fa, kd, sp, hu, be, ea⟩ := v
  exact C_X3_cookTo hI hN c j hj n am he sa ro fa kd sp hu be ea a
set_option maxHeartbeats 4000000 in
theorem C_X3_clear {K : zK} (hI : zInj K) (hN : kN K = 85) (c : CS) (j : Nat) (hj : j < 12) (n am he sa ro fa : Int) (kd sp hu be ea : Int → Int)  : zCv K yX3_clear cX3_clear 1 0 [.ref (kad K (6 * j + 13))] (layC K (wS c j (n, am, he, sa, ro, fa, kd, sp, hu, be, ea))) (fun u => u = layC K (wS c j (0, 30, 4, 1, 5, 6, kd, sp, hu, be, ea))) := by
  refine zCv_in hI (by decide +kernel) (Nat.le_of_ble_eq_true rfl) (fun X O hE => ?_)
  refine n_aload_n O dX3_clear_0 rfl ?_
  refine r_iconst O dX3_clear_1 ?_
  refine s_put_n O hN hj fl_X3_27 dX3_clear_2 ?_
  refine n_aload_n O dX3_clear_5 rfl ?_
  refine r_bipush O (by decide +kernel) dX3_clear_6 ?_
  refine s_put_am O hN hj fl_X3_31 dX3_clear_8 ?_
  refine n_aload_n O dX3_clear_11 rfl ?_
  refine r_iconst O dX3_clear_12 ?_
  refine s_put_he O hN hj fl_X3_34 dX3_clear_13 ?_
  refine n_aload_n O dX3_clear_16 rfl ?_
  refine r_iconst O dX3_clear_17 ?_
  refine s_put_sa O hN hj fl_X3_37 dX3_clear_18 ?_
  refine n_aload_n O dX3_clear_21 rfl ?_
  refine r_iconst O dX3_clear_22 ?_
  refine s_put_ro O hN hj fl_X3_40 dX3_clear_23 ?_
  refine n_aload_n O dX3_clear_26 rfl ?_
  refine r_bipush O (by decide +kernel) dX3_clear_27 ?_
  refine s_put_fa O hN hj fl_X3_43 dX3_clear_29 ?_
  exact hE _ _ _ dX3_clear_32 rfl
theorem D_X3_clear {K : zK} (hI : zInj K) (hN : kN K = 85) (c : CS) (j : Nat) (hj : j < 12) (v : SV)  : zCv K yX3_clear cX3_clear 1 0 [.ref (kad K (6 * j + 13))] (layC K (wS c j v)) (fun u => u = layC K (wS c j (clearV v))) := by
  obtain ⟨n, am, he, sa, ro, fa, kd, sp, hu, be, ea⟩ := v
  exact C_X3_clear hI hN c j hj n am he sa ro fa kd sp hu be ea 
set_option maxHeartbeats 4000000 in
theorem C_X3_exchangeSpoons {K : zK} (hI : zInj K) (hN : kN K = 85) (c : CS) (j : Nat) (hj : j < 12) (n am he sa ro fa : Int) (kd sp hu be ea : Int → Int) (hv : okV (n, am, he, sa, ro, fa, kd, sp, hu, be, ea)) (i k : Int) (h0 : 0 ≤ i) (h1 : i < n) (h2 : 0 ≤ k) (h3 : k < n) : zCv K yX3_exchangeSpoons cX3_exchangeSpoons 5 0 [.ref (kad K (6 * j + 13)), .int (iI i), .int (iI k)] (layC K (wS c j (n, am, he, sa, ro, fa, kd, sp, hu, be, ea))) (fun u => u = layC K (wS c j (n, am, he, sa, ro, fa, uI (uI kd i (kd k)) k (kd i), uI (uI sp i (sp k)) k (sp i), hu, be, ea))) := by
  obtain ⟨hn, ham, hhe, hsa, hro, hfa, hm⟩ : (0 ≤ n ∧ n ≤ 7) ∧ (0 ≤ am ∧ am ≤ 99) ∧ (0 ≤ he ∧ he ≤ 9) ∧ (0 ≤ sa ∧ sa ≤ 9) ∧ (1 ≤ ro ∧ ro ≤ 20) ∧ (1 ≤ fa ∧ fa ≤ 20) ∧ ∀ i : Int, 0 ≤ i → i < n → okM (kd i) (sp i) (hu i) (be i) := id hv
  refine zCv_in hI (by decide +kernel) (Nat.le_of_ble_eq_true rfl) (fun X O hE => ?_)
  refine n_aload_n O dX3_exchangeSpoons_0 rfl ?_
  refine s_arr_kd O hN hj fl_X3_9 dX3_exchangeSpoons_1 ?_
  refine n_iload_n O dX3_exchangeSpoons_4 rfl ?_
  refine s_ld_kd O hN hj (by omega) (by omega) dX3_exchangeSpoons_5 ?_
  refine n_istore_n O dX3_exchangeSpoons_6 (by decide) rfl ?_
  refine n_aload_n O dX3_exchangeSpoons_7 rfl ?_
  refine s_arr_sp O hN hj fl_X3_15 dX3_exchangeSpoons_8 ?_
  refine n_iload_n O dX3_exchangeSpoons_11 rfl ?_
  refine s_ld_sp O hN hj (by omega) (by omega) dX3_exchangeSpoons_12 ?_
  refine n_istore O dX3_exchangeSpoons_13 (by decide) rfl ?_
  refine n_aload_n O dX3_exchangeSpoons_15 rfl ?_
  refine s_arr_kd O hN hj fl_X3_9 dX3_exchangeSpoons_16 ?_
  refine n_iload_n O dX3_exchangeSpoons_19 rfl ?_
  refine n_aload_n O dX3_exchangeSpoons_20 rfl ?_
  refine s_arr_kd O hN hj fl_X3_9 dX3_exchangeSpoons_21 ?_
  refine n_iload_n O dX3_exchangeSpoons_24 rfl ?_
  refine s_ld_kd O hN hj (by omega) (by omega) dX3_exchangeSpoons_25 ?_
  refine s_st_kd O hN hj (by omega) (by omega) dX3_exchangeSpoons_26 ?_
  refine n_aload_n O dX3_exchangeSpoons_27 rfl ?_
  refine s_arr_sp O hN hj fl_X3_15 dX3_exchangeSpoons_28 ?_
  refine n_iload_n O dX3_exchangeSpoons_31 rfl ?_
  refine n_aload_n O dX3_exchangeSpoons_32 rfl ?_
  refine s_arr_sp O hN hj fl_X3_15 dX3_exchangeSpoons_33 ?_
  refine n_iload_n O dX3_exchangeSpoons_36 rfl ?_
  refine s_ld_sp O hN hj (by omega) (by omega) dX3_exchangeSpoons_37 ?_
  refine s_st_sp O hN hj (by omega) (by omega) dX3_exchangeSpoons_38 ?_
  refine n_aload_n O dX3_exchangeSpoons_39 rfl ?_
  refine s_arr_kd O hN hj fl_X3_9 dX3_exchangeSpoons_40 ?_
  refine n_iload_n O dX3_exchangeSpoons_43 rfl ?_
  refine n_iload_n O dX3_exchangeSpoons_44 rfl ?_
  refine s_st_kd O hN hj (by omega) (by omega) dX3_exchangeSpoons_45 ?_
  refine n_aload_n O dX3_exchangeSpoons_46 rfl ?_
  refine s_arr_sp O hN hj fl_X3_15 dX3_exchangeSpoons_47 ?_
  refine n_iload_n O dX3_exchangeSpoons_50 rfl ?_
  refine n_iload O dX3_exchangeSpoons_51 rfl ?_
  refine s_st_sp O hN hj (by omega) (by omega) dX3_exchangeSpoons_53 ?_
  exact hE _ _ _ dX3_exchangeSpoons_54 rfl
theorem D_X3_exchangeSpoons {K : zK} (hI : zInj K) (hN : kN K = 85) (c : CS) (j : Nat) (hj : j < 12) (v : SV) (hv : okV v) (i k : Int) (h0 : 0 ≤ i) (h1 : i < qn v) (h2 : 0 ≤ k) (h3 : k < qn v) : zCv K yX3_exchangeSpoons cX3_exchangeSpoons 5 0 [.ref (kad K (6 * j + 13)), .int (iI i), .int (iI k)] (layC K (wS c j v)) (fun u => u = layC K (wS c j (exchV v i k))) := by
  obtain ⟨n, am, he, sa, ro, fa, kd, sp, hu, be, ea⟩ := v
  exact C_X3_exchangeSpoons hI hN c j hj n am he sa ro fa kd sp hu be ea hv i k h0 h1 h2 h3
set_option maxHeartbeats 4000000 in
theorem C_X3_takeOver {K : zK} (hI : zInj K) (hN : kN K = 85) (c : CS) (j : Nat) (hj : j < 12) (n am he sa ro fa : Int) (kd sp hu be ea : Int → Int) (i : Nat) (hi : i < 12) (hne : i ≠ j) : zCv K yX3_takeOver cX3_takeOver 2 1 [.ref (kad K (6 * j + 13)), .ref (kad K (6 * i + 13))] (layC K (wS c j (n, am, he, sa, ro, fa, kd, sp, hu, be, ea))) (fun u => u = layC K (wS c j (cpV (c.1 i) (n, am, he, sa, ro, fa, kd, sp, hu, be, ea)))) := by
  obtain ⟨w, hcu⟩ : ∃ w, c.1 i = w := ⟨_, rfl⟩
  refine zCv_in hI (by decide +kernel) (Nat.le_of_ble_eq_true rfl) (fun X O hE => ?_)
  refine n_aload_n O dX3_takeOver_0 rfl ?_
  refine t_arr_kd O hN hi fl_X3_9 dX3_takeOver_1 ?_
  refine r_iconst O dX3_takeOver_4 ?_
  refine n_aload_n O dX3_takeOver_5 rfl ?_
  refine s_arr_kd O hN hj fl_X3_9 dX3_takeOver_6 ?_
  refine r_iconst O dX3_takeOver_9 ?_
  refine r_bipush O (by decide +kernel) dX3_takeOver_10 ?_
  refine o_copy_kd O hN hj hi hne hcu qc_X3_50 (by decide) (Nat.le_of_ble_eq_true rfl) dX3_takeOver_12 ?_
  refine n_aload_n O dX3_takeOver_15 rfl ?_
  refine t_arr_sp O hN hi fl_X3_15 dX3_takeOver_16 ?_
  refine r_iconst O dX3_takeOver_19 ?_
  refine n_aload_n O dX3_takeOver_20 rfl ?_
  refine s_arr_sp O hN hj fl_X3_15 dX3_takeOver_21 ?_
  refine r_iconst O dX3_takeOver_24 ?_
  refine r_bipush O (by decide +kernel) dX3_takeOver_25 ?_
  refine o_copy_sp O hN hj hi hne hcu qc_X3_50 (by decide) (Nat.le_of_ble_eq_true rfl) dX3_takeOver_27 ?_
  refine n_aload_n O dX3_takeOver_30 rfl ?_
  refine t_arr_hu O hN hi fl_X3_18 dX3_takeOver_31 ?_
  refine r_iconst O dX3_takeOver_34 ?_
  refine n_aload_n O dX3_takeOver_35 rfl ?_
  refine s_arr_hu O hN hj fl_X3_18 dX3_takeOver_36 ?_
  refine r_iconst O dX3_takeOver_39 ?_
  refine r_bipush O (by decide +kernel) dX3_takeOver_40 ?_
  refine o_copy_hu O hN hj hi hne hcu qc_X3_50 (by decide) (Nat.le_of_ble_eq_true rfl) dX3_takeOver_42 ?_
  refine n_aload_n O dX3_takeOver_45 rfl ?_
  refine t_arr_be O hN hi fl_X3_21 dX3_takeOver_46 ?_
  refine r_iconst O dX3_takeOver_49 ?_
  refine n_aload_n O dX3_takeOver_50 rfl ?_
  refine s_arr_be O hN hj fl_X3_21 dX3_takeOver_51 ?_
  refine r_iconst O dX3_takeOver_54 ?_
  refine r_bipush O (by decide +kernel) dX3_takeOver_55 ?_
  refine o_copy_be O hN hj hi hne hcu qc_X3_50 (by decide) (Nat.le_of_ble_eq_true rfl) dX3_takeOver_57 ?_
  refine n_aload_n O dX3_takeOver_60 rfl ?_
  refine t_arr_ea O hN hi fl_X3_24 dX3_takeOver_61 ?_
  refine r_iconst O dX3_takeOver_64 ?_
  refine n_aload_n O dX3_takeOver_65 rfl ?_
  refine s_arr_ea O hN hj fl_X3_24 dX3_takeOver_66 ?_
  refine r_iconst O dX3_takeOver_69 ?_
  refine r_bipush O (by decide +kernel) dX3_takeOver_70 ?_
  refine o_copy_ea O hN hj hi hne hcu qc_X3_50 (by decide) (Nat.le_of_ble_eq_true rfl) dX3_takeOver_72 ?_
  refine n_aload_n O dX3_takeOver_75 rfl ?_
  refine n_aload_n O dX3_takeOver_76 rfl ?_
  refine o_get_n O hN hi hne hcu fl_X3_27 dX3_takeOver_77 ?_
  refine s_put_n O hN hj fl_X3_27 dX3_takeOver_80 ?_
  refine n_aload_n O dX3_takeOver_83 rfl ?_
  refine n_aload_n O dX3_takeOver_84 rfl ?_
  refine o_get_am O hN hi hne hcu fl_X3_31 dX3_takeOver_85 ?_
  refine s_put_am O hN hj fl_X3_31 dX3_takeOver_88 ?_
  refine n_aload_n O dX3_takeOver_91 rfl ?_
  refine n_aload_n O dX3_takeOver_92 rfl ?_
  refine o_get_he O hN hi hne hcu fl_X3_34 dX3_takeOver_93 ?_
  refine s_put_he O hN hj fl_X3_34 dX3_takeOver_96 ?_
  refine n_aload_n O dX3_takeOver_99 rfl ?_
  refine n_aload_n O dX3_takeOver_100 rfl ?_
  refine o_get_sa O hN hi hne hcu fl_X3_37 dX3_takeOver_101 ?_
  refine s_put_sa O hN hj fl_X3_37 dX3_takeOver_104 ?_
  refine n_aload_n O dX3_takeOver_107 rfl ?_
  refine n_aload_n O dX3_takeOver_108 rfl ?_
  refine o_get_ro O hN hi hne hcu fl_X3_40 dX3_takeOver_109 ?_
  refine s_put_ro O hN hj fl_X3_40 dX3_takeOver_112 ?_
  refine n_aload_n O dX3_takeOver_115 rfl ?_
  refine n_aload_n O dX3_takeOver_116 rfl ?_
  refine o_get_fa O hN hi hne hcu fl_X3_43 dX3_takeOver_117 ?_
  refine s_put_fa O hN hj fl_X3_43 dX3_takeOver_120 ?_
  exact hE _ _ _ dX3_takeOver_123 (by rw [hcu]; rfl)
theorem D_X3_takeOver {K : zK} (hI : zInj K) (hN : kN K = 85) (c : CS) (j : Nat) (hj : j < 12) (v : SV) (i : Nat) (hi : i < 12) (hne : i ≠ j) : zCv K yX3_takeOver cX3_takeOver 2 1 [.ref (kad K (6 * j + 13)), .ref (kad K (6 * i + 13))] (layC K (wS c j v)) (fun u => u = layC K (wS c j (cpV (c.1 i) v))) := by
  obtain ⟨n, am, he, sa, ro, fa, kd, sp, hu, be, ea⟩ := v
  exact C_X3_takeOver hI hN c j hj n am he sa ro fa kd sp hu be ea i hi hne
set_option maxHeartbeats 4000000 in
theorem C_X3_eatRound {K : zK} (hI : zInj K) (hN : kN K = 85) (c : CS) (j : Nat) (hj : j < 12) (n am he sa ro fa : Int) (kd sp hu be ea : Int → Int) (hv : okV (n, am, he, sa, ro, fa, kd, sp, hu, be, ea)) : zCi K yX3_eatRound cX3_eatRound 4 (some .int) 3 [.ref (kad K (6 * j + 13))] (layC K (wS c j (n, am, he, sa, ro, fa, kd, sp, hu, be, ea))) (fun z u => z = (roundV (n, am, he, sa, ro, fa, kd, sp, hu, be, ea)).2 ∧ u = layC K (wS c j (roundV (n, am, he, sa, ro, fa, kd, sp, hu, be, ea)).1)) := by
  obtain ⟨hn, ham, hhe, hsa, hro, hfa, hm⟩ : (0 ≤ n ∧ n ≤ 7) ∧ (0 ≤ am ∧ am ≤ 99) ∧ (0 ≤ he ∧ he ≤ 9) ∧ (0 ≤ sa ∧ sa ≤ 9) ∧ (1 ≤ ro ∧ ro ≤ 20) ∧ (1 ≤ fa ∧ fa ≤ 20) ∧ ∀ i : Int, 0 ≤ i → i < n → okM (kd i) (sp i) (hu i) (be i) := id hv
  refine zCi_in hI (by decide +kernel) (Nat.le_of_ble_eq_true rfl) (fun X O hE => ?_)
  refine r_bipush O (by decide +kernel) dX3_eatRound_0 ?_
  refine n_istore_n O dX3_eatRound_2 (by decide) rfl ?_
  refine r_iconst O dX3_eatRound_3 ?_
  refine n_istore_n O dX3_eatRound_4 (by decide) rfl ?_
  have L5 : ∀ (zk : Nat) (i : Nat) (am1 : Int) (hu1 ea1 : Int → Int) (sc : Int), ((i : Int) ≤ n ∧ eatN (n, am, he, sa, ro, fa, kd, sp, hu, be, ea) i = ((n, am1, he, sa, ro, fa, kd, sp, hu1, be, ea1), sc)) → 7 - i = zk → G K X 4 5 [(0, .ref (kad K (6 * j + 13))), (1, .int (iI sc)), (2, .int (iI (i : Int)))] [] (layC K (wS c j (n, am1, he, sa, ro, fa, kd, sp, hu1, be, ea1))) := by
    intro zk
    induction zk using Nat.strongRecOn with
    | ind zk ih5 =>
      intro i am1 hu1 ea1 sc hinv hk
      obtain ⟨hi, hq⟩ := hinv
      have hv1 : okV (n, am1, he, sa, ro, fa, kd, sp, hu1, be, ea1) := by have := okV_eatN hv i hi; rw [hq] at this; exact this
      have ham1 : 0 ≤ am1 ∧ am1 ≤ 99 := hv1.2.1
      refine n_iload_n O dX3_eatRound_5 rfl ?_
      refine n_aload_n O dX3_eatRound_6 rfl ?_
      refine s_get_n O hN hj fl_X3_27 dX3_eatRound_7 ?_
      refine r_icmp_ge (tgt := 69) O ⟨by omega, by omega⟩ ⟨by omega, by omega⟩ dX3_eatRound_10 (by decide) (fun hc10 => ?_) (fun hc10 => ?_)
      · skip
        refine n_aload_n O dX3_eatRound_69 rfl ?_
        refine r_callV0v O (C_X3_waitOnce hI hN _ _ hj _ _ _ _ _ _ _ _ _ _ _ hv1) q_X3_72 (by rw [hN]; omega) (lay_q K _ _ _ 0 (by omega) (by decide) rfl) rfl rfl (by decide) (by decide) (Nat.le_of_ble_eq_true rfl) dX3_eatRound_70 (fun zu70 hz70 => ?_)
        obtain rfl := hz70
        refine n_iload_n O dX3_eatRound_73 rfl ?_
        exact hE _ _ _ _ dX3_eatRound_74 rfl (by have hin : n.toNat = i := (by omega); exact ⟨by show sc = (eatN (n, am, he, sa, ro, fa, kd, sp, hu, be, ea) n.toNat).2; rw [hin, hq], by show _ = layC K (wS c j (waitV (eatN (n, am, he, sa, ro, fa, kd, sp, hu, be, ea) n.toNat).1)); rw [hin, hq]; rfl⟩)
      · skip
        refine n_aload_n O dX3_eatRound_13 rfl ?_
        refine n_iload_n O dX3_eatRound_14 rfl ?_
        refine r_callV1i O (D_X3_share hI hN _ _ hj _ hv1 _ (by omega) (by show (i : Int) < n; omega)) q_X3_69 (by rw [hN]; omega) (lay_q K _ _ _ 0 (by omega) (by decide) rfl) rfl rfl (by decide) (by decide) (Nat.le_of_ble_eq_true rfl) dX3_eatRound_15 (fun zz15 zu15 hz15 => ?_)
        obtain ⟨rfl, rfl⟩ := hz15
        have hs : 0 ≤ shareV (n, am1, he, sa, ro, fa, kd, sp, hu1, be, ea1) i ∧ shareV (n, am1, he, sa, ro, fa, kd, sp, hu1, be, ea1) i ≤ am1 ∧ shareV (n, am1, he, sa, ro, fa, kd, sp, hu1, be, ea1) i ≤ hu1 i := shareV_b hv1 (by omega) (by show (i : Int) < n; omega)
        refine n_istore_n O dX3_eatRound_18 (by decide) rfl ?_
        refine n_iload_n O dX3_eatRound_19 rfl ?_
        refine r_if_le (tgt := 33) O ⟨by omega, by omega⟩ dX3_eatRound_20 (by decide) (fun hc20 => ?_) (fun hc20 => ?_)
        · skip
          refine n_aload_n O dX3_eatRound_33 rfl ?_
          refine r_dup O rfl dX3_eatRound_34 ?_
          refine s_get_am O hN hj fl_X3_31 dX3_eatRound_35 ?_
          refine n_iload_n O dX3_eatRound_38 rfl ?_
          refine r_isub O dX3_eatRound_39 ?_
          refine s_put_am O hN hj fl_X3_31 dX3_eatRound_40 ?_
          refine n_aload_n O dX3_eatRound_43 rfl ?_
          refine s_arr_hu O hN hj fl_X3_18 dX3_eatRound_44 ?_
          refine n_iload_n O dX3_eatRound_47 rfl ?_
          refine r_dup2 O rfl rfl dX3_eatRound_48 ?_
          refine s_ld_hu O hN hj (by omega) (by omega) dX3_eatRound_49 ?_
          refine n_iload_n O dX3_eatRound_50 rfl ?_
          refine r_isub O dX3_eatRound_51 ?_
          refine s_st_hu O hN hj (by omega) (by omega) dX3_eatRound_52 ?_
          refine n_aload_n O dX3_eatRound_53 rfl ?_
          refine s_arr_ea O hN hj fl_X3_24 dX3_eatRound_54 ?_
          refine n_iload_n O dX3_eatRound_57 rfl ?_
          refine r_dup2 O rfl rfl dX3_eatRound_58 ?_
          refine s_ld_ea O hN hj (by omega) (by omega) dX3_eatRound_59 ?_
          refine n_iload_n O dX3_eatRound_60 rfl ?_
          refine r_iadd O dX3_eatRound_61 ?_
          refine s_st_ea O hN hj (by omega) (by omega) dX3_eatRound_62 ?_
          refine n_iinc O dX3_eatRound_63 (by decide) rfl rfl ?_
          refine r_goto (tgt := 5) O dX3_eatRound_66 (by decide) ?_
          exact G_chk (ih5 _ (by omega) (i + 1) _ _ _ _ ⟨by omega, by show eatS (eatN (n, am, he, sa, ro, fa, kd, sp, hu, be, ea) i) (i : Int) = _; rw [hq]; first | exact eatS_y ⟨by omega, by show shareV (n, am1, he, sa, ro, fa, kd, sp, hu1, be, ea1) i = am1; omega⟩ | exact eatS_n (by show ¬ (0 < shareV (n, am1, he, sa, ro, fa, kd, sp, hu1, be, ea1) i ∧ shareV (n, am1, he, sa, ro, fa, kd, sp, hu1, be, ea1) i = am1); omega)⟩ rfl) (zsc rfl (zsc rfl (zsc rfl zsn)))
        · skip
          refine n_iload_n O dX3_eatRound_23 rfl ?_
          refine n_aload_n O dX3_eatRound_24 rfl ?_
          refine s_get_am O hN hj fl_X3_31 dX3_eatRound_25 ?_
          refine r_icmp_ne (tgt := 33) O ⟨by omega, by omega⟩ ⟨by omega, by omega⟩ dX3_eatRound_28 (by decide) (fun hc28 => ?_) (fun hc28 => ?_)
          · skip
            refine n_aload_n O dX3_eatRound_33 rfl ?_
            refine r_dup O rfl dX3_eatRound_34 ?_
            refine s_get_am O hN hj fl_X3_31 dX3_eatRound_35 ?_
            refine n_iload_n O dX3_eatRound_38 rfl ?_
            refine r_isub O dX3_eatRound_39 ?_
            refine s_put_am O hN hj fl_X3_31 dX3_eatRound_40 ?_
            refine n_aload_n O dX3_eatRound_43 rfl ?_
            refine s_arr_hu O hN hj fl_X3_18 dX3_eatRound_44 ?_
            refine n_iload_n O dX3_eatRound_47 rfl ?_
            refine r_dup2 O rfl rfl dX3_eatRound_48 ?_
            refine s_ld_hu O hN hj (by omega) (by omega) dX3_eatRound_49 ?_
            refine n_iload_n O dX3_eatRound_50 rfl ?_
            refine r_isub O dX3_eatRound_51 ?_
            refine s_st_hu O hN hj (by omega) (by omega) dX3_eatRound_52 ?_
            refine n_aload_n O dX3_eatRound_53 rfl ?_
            refine s_arr_ea O hN hj fl_X3_24 dX3_eatRound_54 ?_
            refine n_iload_n O dX3_eatRound_57 rfl ?_
            refine r_dup2 O rfl rfl dX3_eatRound_58 ?_
            refine s_ld_ea O hN hj (by omega) (by omega) dX3_eatRound_59 ?_
            refine n_iload_n O dX3_eatRound_60 rfl ?_
            refine r_iadd O dX3_eatRound_61 ?_
            refine s_st_ea O hN hj (by omega) (by omega) dX3_eatRound_62 ?_
            refine n_iinc O dX3_eatRound_63 (by decide) rfl rfl ?_
            refine r_goto (tgt := 5) O dX3_eatRound_66 (by decide) ?_
            exact G_chk (ih5 _ (by omega) (i + 1) _ _ _ _ ⟨by omega, by show eatS (eatN (n, am, he, sa, ro, fa, kd, sp, hu, be, ea) i) (i : Int) = _; rw [hq]; first | exact eatS_y ⟨by omega, by show shareV (n, am1, he, sa, ro, fa, kd, sp, hu1, be, ea1) i = am1; omega⟩ | exact eatS_n (by show ¬ (0 < shareV (n, am1, he, sa, ro, fa, kd, sp, hu1, be, ea1) i ∧ shareV (n, am1, he, sa, ro, fa, kd, sp, hu1, be, ea1) i = am1); omega)⟩ rfl) (zsc rfl (zsc rfl (zsc rfl zsn)))
          · skip
            refine n_iload_n O dX3_eatRound_31 rfl ?_
            refine n_istore_n O dX3_eatRound_32 (by decide) rfl ?_
            refine n_aload_n O dX3_eatRound_33 rfl ?_
            refine r_dup O rfl dX3_eatRound_34 ?_
            refine s_get_am O hN hj fl_X3_31 dX3_eatRound_35 ?_
            refine n_iload_n O dX3_eatRound_38 rfl ?_
            refine r_isub O dX3_eatRound_39 ?_
            refine s_put_am O hN hj fl_X3_31 dX3_eatRound_40 ?_
            refine n_aload_n O dX3_eatRound_43 rfl ?_
            refine s_arr_hu O hN hj fl_X3_18 dX3_eatRound_44 ?_
            refine n_iload_n O dX3_eatRound_47 rfl ?_
            refine r_dup2 O rfl rfl dX3_eatRound_48 ?_
            refine s_ld_hu O hN hj (by omega) (by omega) dX3_eatRound_49 ?_
            refine n_iload_n O dX3_eatRound_50 rfl ?_
            refine r_isub O dX3_eatRound_51 ?_
            refine s_st_hu O hN hj (by omega) (by omega) dX3_eatRound_52 ?_
            refine n_aload_n O dX3_eatRound_53 rfl ?_
            refine s_arr_ea O hN hj fl_X3_24 dX3_eatRound_54 ?_
            refine n_iload_n O dX3_eatRound_57 rfl ?_
            refine r_dup2 O rfl rfl dX3_eatRound_58 ?_
            refine s_ld_ea O hN hj (by omega) (by omega) dX3_eatRound_59 ?_
            refine n_iload_n O dX3_eatRound_60 rfl ?_
            refine r_iadd O dX3_eatRound_61 ?_
            refine s_st_ea O hN hj (by omega) (by omega) dX3_eatRound_62 ?_
            refine n_iinc O dX3_eatRound_63 (by decide) rfl rfl ?_
            refine r_goto (tgt := 5) O dX3_eatRound_66 (by decide) ?_
            exact G_chk (ih5 _ (by omega) (i + 1) _ _ _ _ ⟨by omega, by show eatS (eatN (n, am, he, sa, ro, fa, kd, sp, hu, be, ea) i) (i : Int) = _; rw [hq]; first | exact eatS_y ⟨by omega, by show shareV (n, am1, he, sa, ro, fa, kd, sp, hu1, be, ea1) i = am1; omega⟩ | exact eatS_n (by show ¬ (0 < shareV (n, am1, he, sa, ro, fa, kd, sp, hu1, be, ea1) i ∧ shareV (n, am1, he, sa, ro, fa, kd, sp, hu1, be, ea1) i = am1); omega)⟩ rfl) (zsc rfl (zsc rfl (zsc rfl zsn)))
  exact G_chk (L5 _ 0 am hu ea (-4) ⟨by omega, rfl⟩ rfl) (zsc rfl (zsc rfl (zsc rfl zsn)))
theorem D_X3_eatRound {K : zK} (hI : zInj K) (hN : kN K = 85) (c : CS) (j : Nat) (hj : j < 12) (v : SV) (hv : okV v)  : zCi K yX3_eatRound cX3_eatRound 4 (some .int) 3 [.ref (kad K (6 * j + 13))] (layC K (wS c j v)) (fun z u => z = (roundV v).2 ∧ u = layC K (wS c j (roundV v).1)) := by
  obtain ⟨n, am, he, sa, ro, fa, kd, sp, hu, be, ea⟩ := v
  exact C_X3_eatRound hI hN c j hj n am he sa ro fa kd sp hu be ea hv 
set_option maxHeartbeats 4000000 in
theorem C_X3_eatRounds {K : zK} (hI : zInj K) (hN : kN K = 85) (c : CS) (j : Nat) (hj : j < 12) (n am he sa ro fa : Int) (kd sp hu be ea : Int → Int) (hv : okV (n, am, he, sa, ro, fa, kd, sp, hu, be, ea)) (m : Int) (hm0 : 0 ≤ m) (hm1 : m ≤ 20) : zCi K yX3_eatRounds cX3_eatRounds 5 (some .int) 4 [.ref (kad K (6 * j + 13)), .int (iI m)] (layC K (wS c j (n, am, he, sa, ro, fa, kd, sp, hu, be, ea))) (fun z u => z = (roundsV (n, am, he, sa, ro, fa, kd, sp, hu, be, ea) m.toNat).2 ∧ u = layC K (wS c j (roundsV (n, am, he, sa, ro, fa, kd, sp, hu, be, ea) m.toNat).1)) := by
  obtain ⟨hn, ham, hhe, hsa, hro, hfa, hm⟩ : (0 ≤ n ∧ n ≤ 7) ∧ (0 ≤ am ∧ am ≤ 99) ∧ (0 ≤ he ∧ he ≤ 9) ∧ (0 ≤ sa ∧ sa ≤ 9) ∧ (1 ≤ ro ∧ ro ≤ 20) ∧ (1 ≤ fa ∧ fa ≤ 20) ∧ ∀ i : Int, 0 ≤ i → i < n → okM (kd i) (sp i) (hu i) (be i) := id hv
  refine zCi_in hI (by decide +kernel) (Nat.le_of_ble_eq_true rfl) (fun X O hE => ?_)
  refine r_bipush O (by decide +kernel) dX3_eatRounds_0 ?_
  refine n_istore_n O dX3_eatRounds_2 (by decide) rfl ?_
  refine r_iconst O dX3_eatRounds_3 ?_
  refine n_istore_n O dX3_eatRounds_4 (by decide) rfl ?_
  have L5 : ∀ (zk : Nat) (i : Nat) (sc : Int), ((i : Int) ≤ m ∧ (roundsV (n, am, he, sa, ro, fa, kd, sp, hu, be, ea) i).2 = sc) → 20 - i = zk → G K X 5 5 [(0, .ref (kad K (6 * j + 13))), (1, .int (iI m)), (2, .int (iI sc)), (3, .int (iI (i : Int)))] [] (layC K (wS c j (roundsV (n, am, he, sa, ro, fa, kd, sp, hu, be, ea) i).1)) := by
    intro zk
    induction zk using Nat.strongRecOn with
    | ind zk ih5 =>
      intro i sc hinv hk
      obtain ⟨hi, hq⟩ := hinv
      have hvi : okV (roundsV (n, am, he, sa, ro, fa, kd, sp, hu, be, ea) i).1 := okV_roundsV hv i
      have hb := scr_roundV hvi
      refine n_iload_n O dX3_eatRounds_5 rfl ?_
      refine n_iload_n O dX3_eatRounds_6 rfl ?_
      refine r_icmp_ge (tgt := 32) O ⟨by omega, by omega⟩ ⟨by omega, by omega⟩ dX3_eatRounds_7 (by decide) (fun hc7 => ?_) (fun hc7 => ?_)
      · skip
        refine n_iload_n O dX3_eatRounds_32 rfl ?_
        exact hE _ _ _ _ dX3_eatRounds_33 rfl (by have hin : m.toNat = i := (by omega); rw [hin]; exact ⟨hq.symm, rfl⟩)
      · skip
        refine n_aload_n O dX3_eatRounds_10 rfl ?_
        refine r_callV0i O (D_X3_eatRound hI hN _ _ hj _ hvi) q_X3_75 (by rw [hN]; omega) (lay_q K _ _ _ 0 (by omega) (by decide) rfl) rfl rfl (by decide) (by decide) (Nat.le_of_ble_eq_true rfl) dX3_eatRounds_11 (fun zz11 zu11 hz11 => ?_)
        obtain ⟨rfl, rfl⟩ := hz11
        refine n_istore O dX3_eatRounds_14 (by decide) rfl ?_
        refine n_iload O dX3_eatRounds_16 rfl ?_
        refine r_bipush O (by decide +kernel) dX3_eatRounds_18 ?_
        refine r_icmp_eq (tgt := 26) O ⟨by omega, by omega⟩ ⟨by omega, by omega⟩ dX3_eatRounds_20 (by decide) (fun hc20 => ?_) (fun hc20 => ?_)
        · skip
          refine n_iinc O dX3_eatRounds_26 (by decide) rfl rfl ?_
          refine r_goto (tgt := 5) O dX3_eatRounds_29 (by decide) ?_
          exact G_chk (ih5 _ (by omega) (i + 1) _ ⟨by omega, by show (if (roundV (roundsV (n, am, he, sa, ro, fa, kd, sp, hu, be, ea) i).1).2 = -4 then (roundsV (n, am, he, sa, ro, fa, kd, sp, hu, be, ea) i).2 else (roundV (roundsV (n, am, he, sa, ro, fa, kd, sp, hu, be, ea) i).1).2) = _; first | (rw [if_pos hc20, hq]; done) | (rw [if_neg hc20]; done)⟩ rfl) (zsc rfl (zsc rfl (zsc rfl (zsc rfl zsn))))
        · skip
          refine n_iload O dX3_eatRounds_23 rfl ?_
          refine n_istore_n O dX3_eatRounds_25 (by decide) rfl ?_
          refine n_iinc O dX3_eatRounds_26 (by decide) rfl rfl ?_
          refine r_goto (tgt := 5) O dX3_eatRounds_29 (by decide) ?_
          exact G_chk (ih5 _ (by omega) (i + 1) _ ⟨by omega, by show (if (roundV (roundsV (n, am, he, sa, ro, fa, kd, sp, hu, be, ea) i).1).2 = -4 then (roundsV (n, am, he, sa, ro, fa, kd, sp, hu, be, ea) i).2 else (roundV (roundsV (n, am, he, sa, ro, fa, kd, sp, hu, be, ea) i).1).2) = _; first | (rw [if_pos hc20, hq]; done) | (rw [if_neg hc20]; done)⟩ rfl) (zsc rfl (zsc rfl (zsc rfl (zsc rfl zsn))))
  exact G_chk (L5 _ 0 (-4) ⟨by omega, rfl⟩ rfl) (zsc rfl (zsc rfl (zsc rfl (zsc rfl zsn))))
theorem D_X3_eatRounds {K : zK} (hI : zInj K) (hN : kN K = 85) (c : CS) (j : Nat) (hj : j < 12) (v : SV) (hv : okV v) (m : Int) (hm0 : 0 ≤ m) (hm1 : m ≤ 20) : zCi K yX3_eatRounds cX3_eatRounds 5 (some .int) 4 [.ref (kad K (6 * j + 13)), .int (iI m)] (layC K (wS c j v)) (fun z u => z = (roundsV v m.toNat).2 ∧ u = layC K (wS c j (roundsV v m.toNat).1)) := by
  obtain ⟨n, am, he, sa, ro, fa, kd, sp, hu, be, ea⟩ := v
  exact C_X3_eatRounds hI hN c j hj n am he sa ro fa kd sp hu be ea hv m hm0 hm1
set_option maxHeartbeats 4000000 in
theorem C_X3_roundsUntilEmpty {K : zK} (hI : zInj K) (hN : kN K = 85) (c : CS) (j : Nat) (hj : j < 12) (n am he sa ro fa : Int) (kd sp hu be ea : Int → Int) (hv : okV (n, am, he, sa, ro, fa, kd, sp, hu, be, ea)) : zCi K yX3_roundsUntilEmpty cX3_roundsUntilEmpty 2 (some .int) 4 [.ref (kad K (6 * j + 13))] (layC K (wS c j (n, am, he, sa, ro, fa, kd, sp, hu, be, ea))) (fun z u => untilP (n, am, he, sa, ro, fa, kd, sp, hu, be, ea) z ∧ ∃ w : SV, u = layC K (wS c j w)) := by
  obtain ⟨hn, ham, hhe, hsa, hro, hfa, hm⟩ : (0 ≤ n ∧ n ≤ 7) ∧ (0 ≤ am ∧ am ≤ 99) ∧ (0 ≤ he ∧ he ≤ 9) ∧ (0 ≤ sa ∧ sa ≤ 9) ∧ (1 ≤ ro ∧ ro ≤ 20) ∧ (1 ≤ fa ∧ fa ≤ 20) ∧ ∀ i : Int, 0 ≤ i → i < n → okM (kd i) (sp i) (hu i) (be i) := id hv
  refine zCi_in hI (by decide +kernel) (Nat.le_of_ble_eq_true rfl) (fun X O hE => ?_)
  refine r_iconst O dX3_roundsUntilEmpty_0 ?_
  refine n_istore_n O dX3_roundsUntilEmpty_1 (by decide) rfl ?_
  have L2 : ∀ (zk : Nat) (i : Nat), ((i : Int) ≤ ro + 1 ∧ ∀ m : Nat, m < i → qam (roundsV (n, am, he, sa, ro, fa, kd, sp, hu, be, ea) m).1 ≠ 0) → 21 - i = zk → G K X 2 2 [(0, .ref (kad K (6 * j + 13))), (1, .int (iI (i : Int)))] [] (layC K (wS c j (roundsV (n, am, he, sa, ro, fa, kd, sp, hu, be, ea) i).1)) := by
    intro zk
    induction zk using Nat.strongRecOn with
    | ind zk ih2 =>
      intro i hinv hk
      obtain ⟨hi, hq⟩ := hinv
      have hvi : okV (roundsV (n, am, he, sa, ro, fa, kd, sp, hu, be, ea) i).1 := okV_roundsV hv i
      have hr : qro (roundsV (n, am, he, sa, ro, fa, kd, sp, hu, be, ea) i).1 = ro := roundsV_ro _ i
      have ha := hvi.2.1
      refine n_iload_n O dX3_roundsUntilEmpty_2 rfl ?_
      refine n_aload_n O dX3_roundsUntilEmpty_3 rfl ?_
      refine v_get_ro O hN hj fl_X3_40 dX3_roundsUntilEmpty_4 ?_
      refine r_icmp_gt (tgt := 30) O ⟨by omega, by omega⟩ ⟨by omega, by omega⟩ dX3_roundsUntilEmpty_7 (by decide) (fun hc7 => ?_) (fun hc7 => ?_)
      · skip
        refine r_bipush O (by decide +kernel) dX3_roundsUntilEmpty_30 ?_
        exact hE _ _ _ _ dX3_roundsUntilEmpty_32 rfl ⟨Or.inr ⟨fun m hm => hq m (by have : (m : Int) ≤ ro := hm; omega), rfl⟩, _, rfl⟩
      · skip
        refine n_aload_n O dX3_roundsUntilEmpty_10 rfl ?_
        refine v_get_am O hN hj fl_X3_31 dX3_roundsUntilEmpty_11 ?_
        refine r_if_ne (tgt := 19) O ⟨by omega, by omega⟩ dX3_roundsUntilEmpty_14 (by decide) (fun hc14 => ?_) (fun hc14 => ?_)
        · skip
          refine n_aload_n O dX3_roundsUntilEmpty_19 rfl ?_
          refine r_callV0i O (D_X3_eatRound hI hN _ _ hj _ hvi) q_X3_75 (by rw [hN]; omega) (lay_q K _ _ _ 0 (by omega) (by decide) rfl) rfl rfl (by decide) (by decide) (Nat.le_of_ble_eq_true rfl) dX3_roundsUntilEmpty_20 (fun zz20 zu20 hz20 => ?_)
          obtain ⟨rfl, rfl⟩ := hz20
          refine r_pop O rfl dX3_roundsUntilEmpty_23 ?_
          refine n_iinc O dX3_roundsUntilEmpty_24 (by decide) rfl rfl ?_
          refine r_goto (tgt := 2) O dX3_roundsUntilEmpty_27 (by decide) ?_
          exact G_chk (ih2 _ (by omega) (i + 1) ⟨by omega, fun m hm => by rcases Nat.lt_or_ge m i with h | h; exact hq m h; have e : m = i := (by omega); rw [e]; exact hc14⟩ rfl) (zsc rfl (zsc rfl zsn))
        · skip
          have hc14 : qam (roundsV (n, am, he, sa, ro, fa, kd, sp, hu, be, ea) i).1 = 0 := by omega
          refine n_iload_n O dX3_roundsUntilEmpty_17 rfl ?_
          exact hE _ _ _ _ dX3_roundsUntilEmpty_18 rfl ⟨Or.inl ⟨i, by show (i : Int) ≤ ro; omega, hc14, hq, rfl⟩, _, rfl⟩
  exact G_chk (L2 _ 0 ⟨by omega, fun m hm => by omega⟩ rfl) (zsc rfl (zsc rfl zsn))
theorem D_X3_roundsUntilEmpty {K : zK} (hI : zInj K) (hN : kN K = 85) (c : CS) (j : Nat) (hj : j < 12) (v : SV) (hv : okV v)  : zCi K yX3_roundsUntilEmpty cX3_roundsUntilEmpty 2 (some .int) 4 [.ref (kad K (6 * j + 13))] (layC K (wS c j v)) (fun z u => untilP v z ∧ ∃ w : SV, u = layC K (wS c j w)) := by
  obtain ⟨n, am, he, sa, ro, fa, kd, sp, hu, be, ea⟩ := v
  exact C_X3_roundsUntilEmpty hI hN c j hj n am he sa ro fa kd sp hu be ea hv 
set_option maxHeartbeats 4000000 in
theorem C_X3_reach {K : zK} (hI : zInj K) (hN : kN K = 85) (c : CS) (j : Nat) (hj : j < 12) (n am he sa ro fa : Int) (kd sp hu be ea : Int → Int) (hv : okV (n, am, he, sa, ro, fa, kd, sp, hu, be, ea)) (i : Int) (h0 : 0 ≤ i) (h1 : i < n) : zCi K yX3_reach cX3_reach 4 (some .int) 2 [.ref (kad K (6 * j + 13)), .int (iI i)] (layC K (wS c j (n, am, he, sa, ro, fa, kd, sp, hu, be, ea))) (fun z u => z = reachV (n, am, he, sa, ro, fa, kd, sp, hu, be, ea) i ∧ u = (layC K (wS c j (n, am, he, sa, ro, fa, kd, sp, hu, be, ea)))) := by
  obtain ⟨hn, ham, hhe, hsa, hro, hfa, hm⟩ : (0 ≤ n ∧ n ≤ 7) ∧ (0 ≤ am ∧ am ≤ 99) ∧ (0 ≤ he ∧ he ≤ 9) ∧ (0 ≤ sa ∧ sa ≤ 9) ∧ (1 ≤ ro ∧ ro ≤ 20) ∧ (1 ≤ fa ∧ fa ≤ 20) ∧ ∀ i : Int, 0 ≤ i → i < n → okM (kd i) (sp i) (hu i) (be i) := id hv
  have hi : (0 ≤ kd i ∧ kd i ≤ 3) ∧ (1 ≤ sp i ∧ sp i ≤ 9) ∧ (0 ≤ hu i ∧ hu i ≤ 60) ∧ (0 ≤ be i ∧ be i ≤ 9) := hm i h0 h1
  refine zCi_in hI (by decide +kernel) (Nat.le_of_ble_eq_true rfl) (fun X O hE => ?_)
  refine r_iconst O dX3_reach_0 ?_
  refine n_istore_n O dX3_reach_1 (by decide) rfl ?_
  refine r_iconst O dX3_reach_2 ?_
  refine n_istore_n O dX3_reach_3 (by decide) rfl ?_
  have L4 : ∀ (zk : Nat) (r : Nat), ((r : Int) ≤ ro) → 20 - r = zk → G K X 4 4 [(0, .ref (kad K (6 * j + 13))), (1, .int (iI i)), (2, .int (iI (reachN (n, am, he, sa, ro, fa, kd, sp, hu, be, ea) i r))), (3, .int (iI (r : Int)))] [] (layC K (wS c j (n, am, he, sa, ro, fa, kd, sp, hu, be, ea))) := by
    intro zk
    induction zk using Nat.strongRecOn with
    | ind zk ih4 =>
      intro r hinv hk
      have hr : 0 ≤ reachN (n, am, he, sa, ro, fa, kd, sp, hu, be, ea) i r ∧ reachN (n, am, he, sa, ro, fa, kd, sp, hu, be, ea) i r ≤ hu i := reachN_b (v := (n, am, he, sa, ro, fa, kd, sp, hu, be, ea)) (i := i) hi.2.1 hi.2.2.1.1 r
      have hb := spoonV_b (sa := sa) (he := he - (r : Int)) (k := kd i) (be := be i) hi.2.1
      refine n_iload_n O dX3_reach_4 rfl ?_
      refine n_aload_n O dX3_reach_5 rfl ?_
      refine s_get_ro O hN hj fl_X3_40 dX3_reach_6 ?_
      refine r_icmp_ge (tgt := 43) O ⟨by omega, by omega⟩ ⟨by omega, by omega⟩ dX3_reach_9 (by decide) (fun hc9 => ?_) (fun hc9 => ?_)
      · skip
        refine n_iload_n O dX3_reach_43 rfl ?_
        exact hE _ _ _ _ dX3_reach_44 rfl (by have hin : ro.toNat = r := (by omega); exact ⟨by show _ = reachN (n, am, he, sa, ro, fa, kd, sp, hu, be, ea) i ro.toNat; rw [hin], rfl⟩)
      · skip
        refine n_iload_n O dX3_reach_12 rfl ?_
        refine n_aload_n O dX3_reach_13 rfl ?_
        refine n_iload_n O dX3_reach_14 rfl ?_
        refine n_aload_n O dX3_reach_15 rfl ?_
        refine s_get_he O hN hj fl_X3_34 dX3_reach_16 ?_
        refine n_iload_n O dX3_reach_19 rfl ?_
        refine r_isub O dX3_reach_20 ?_
        refine r_callV2i O (C_X3_spoonful hI hN _ _ hj _ _ _ _ _ _ _ _ _ _ _ hv _ _ (by omega) (by omega) ⟨by omega, by omega⟩) q_X3_56 (by rw [hN]; omega) (lay_q K _ _ _ 0 (by omega) (by decide) rfl) rfl rfl (by decide) (by decide) (Nat.le_of_ble_eq_true rfl) dX3_reach_21 (fun zz21 zu21 hz21 => ?_)
        obtain ⟨rfl, rfl⟩ := hz21
        refine n_aload_n O dX3_reach_24 rfl ?_
        refine s_arr_hu O hN hj fl_X3_18 dX3_reach_25 ?_
        refine n_iload_n O dX3_reach_28 rfl ?_
        refine s_ld_hu O hN hj (by omega) (by omega) dX3_reach_29 ?_
        refine n_iload_n O dX3_reach_30 rfl ?_
        refine r_isub O dX3_reach_31 ?_
        refine r_min O qm_X3_60 (by decide) (Nat.le_of_ble_eq_true rfl) ⟨by omega, by omega⟩ ⟨by omega, by omega⟩ dX3_reach_32 ?_
        refine r_iadd O dX3_reach_35 ?_
        refine n_istore_n O dX3_reach_36 (by decide) rfl ?_
        refine n_iinc O dX3_reach_37 (by decide) rfl rfl ?_
        refine r_goto (tgt := 4) O dX3_reach_40 (by decide) ?_
        exact G_chk (ih4 _ (by omega) (r + 1) (by omega) rfl) (zsc rfl (zsc rfl (zsc rfl (zsc rfl zsn))))
  exact G_chk (L4 _ 0 (by omega) rfl) (zsc rfl (zsc rfl (zsc rfl (zsc rfl zsn))))
theorem D_X3_reach {K : zK} (hI : zInj K) (hN : kN K = 85) (c : CS) (j : Nat) (hj : j < 12) (v : SV) (hv : okV v) (i : Int) (h0 : 0 ≤ i) (h1 : i < qn v) : zCi K yX3_reach cX3_reach 4 (some .int) 2 [.ref (kad K (6 * j + 13)), .int (iI i)] (layC K (wS c j v)) (fun z u => z = reachV v i ∧ u = layC K (wS c j v)) := by
  obtain ⟨n, am, he, sa, ro, fa, kd, sp, hu, be, ea⟩ := v
  exact C_X3_reach hI hN c j hj n am he sa ro fa kd sp hu be ea hv i h0 h1
set_option maxHeartbeats 4000000 in
theorem C_X3_reachOfAll {K : zK} (hI : zInj K) (hN : kN K = 85) (c : CS) (j : Nat) (hj : j < 12) (n am he sa ro fa : Int) (kd sp hu be ea : Int → Int) (hv : okV (n, am, he, sa, ro, fa, kd, sp, hu, be, ea)) : zCi K yX3_reachOfAll cX3_reachOfAll 3 (some .int) 3 [.ref (kad K (6 * j + 13))] (layC K (wS c j (n, am, he, sa, ro, fa, kd, sp, hu, be, ea))) (fun z u => z = reachA (n, am, he, sa, ro, fa, kd, sp, hu, be, ea) n.toNat ∧ u = (layC K (wS c j (n, am, he, sa, ro, fa, kd, sp, hu, be, ea)))) := by
  obtain ⟨hn, ham, hhe, hsa, hro, hfa, hm⟩ : (0 ≤ n ∧ n ≤ 7) ∧ (0 ≤ am ∧ am ≤ 99) ∧ (0 ≤ he ∧ he ≤ 9) ∧ (0 ≤ sa ∧ sa ≤ 9) ∧ (1 ≤ ro ∧ ro ≤ 20) ∧ (1 ≤ fa ∧ fa ≤ 20) ∧ ∀ i : Int, 0 ≤ i → i < n → okM (kd i) (sp i) (hu i) (be i) := id hv
  refine zCi_in hI (by decide +kernel) (Nat.le_of_ble_eq_true rfl) (fun X O hE => ?_)
  refine r_iconst O dX3_reachOfAll_0 ?_
  refine n_istore_n O dX3_reachOfAll_1 (by decide) rfl ?_
  refine r_iconst O dX3_reachOfAll_2 ?_
  refine n_istore_n O dX3_reachOfAll_3 (by decide) rfl ?_
  have L4 : ∀ (zk : Nat) (i : Nat), ((i : Int) ≤ n) → 7 - i = zk → G K X 3 4 [(0, .ref (kad K (6 * j + 13))), (1, .int (iI (reachA (n, am, he, sa, ro, fa, kd, sp, hu, be, ea) i))), (2, .int (iI (i : Int)))] [] (layC K (wS c j (n, am, he, sa, ro, fa, kd, sp, hu, be, ea))) := by
    intro zk
    induction zk using Nat.strongRecOn with
    | ind zk ih4 =>
      intro i hinv hk
      refine n_iload_n O dX3_reachOfAll_4 rfl ?_
      refine n_aload_n O dX3_reachOfAll_5 rfl ?_
      refine s_get_n O hN hj fl_X3_27 dX3_reachOfAll_6 ?_
      refine r_icmp_ge (tgt := 26) O ⟨by omega, by omega⟩ ⟨by omega, by omega⟩ dX3_reachOfAll_9 (by decide) (fun hc9 => ?_) (fun hc9 => ?_)
      · skip
        refine n_iload_n O dX3_reachOfAll_26 rfl ?_
        exact hE _ _ _ _ dX3_reachOfAll_27 rfl (by have hin : n.toNat = i := (by omega); rw [hin]; exact ⟨rfl, rfl⟩)
      · skip
        refine n_iload_n O dX3_reachOfAll_12 rfl ?_
        refine n_aload_n O dX3_reachOfAll_13 rfl ?_
        refine n_iload_n O dX3_reachOfAll_14 rfl ?_
        refine r_callV1i O (C_X3_reach hI hN _ _ hj _ _ _ _ _ _ _ _ _ _ _ hv _ (by omega) (by omega)) q_X3_79 (by rw [hN]; omega) (lay_q K _ _ _ 0 (by omega) (by decide) rfl) rfl rfl (by decide) (by decide) (Nat.le_of_ble_eq_true rfl) dX3_reachOfAll_15 (fun zz15 zu15 hz15 => ?_)
        obtain ⟨rfl, rfl⟩ := hz15
        refine r_iadd O dX3_reachOfAll_18 ?_
        refine n_istore_n O dX3_reachOfAll_19 (by decide) rfl ?_
        refine n_iinc O dX3_reachOfAll_20 (by decide) rfl rfl ?_
        refine r_goto (tgt := 4) O dX3_reachOfAll_23 (by decide) ?_
        exact G_chk (ih4 _ (by omega) (i + 1) (by omega) rfl) (zsc rfl (zsc rfl (zsc rfl zsn)))
  exact G_chk (L4 _ 0 (by omega) rfl) (zsc rfl (zsc rfl (zsc rfl zsn)))
theorem D_X3_reachOfAll {K : zK} (hI : zInj K) (hN : kN K = 85) (c : CS) (j : Nat) (hj : j < 12) (v : SV) (hv : okV v)  : zCi K yX3_reachOfAll cX3_reachOfAll 3 (some .int) 3 [.ref (kad K (6 * j + 13))] (layC K (wS c j v)) (fun z u => z = reachA v (qn v).toNat ∧ u = layC K (wS c j v)) := by
  obtain ⟨n, am, he, sa, ro, fa, kd, sp, hu, be, ea⟩ := v
  exact C_X3_reachOfAll hI hN c j hj n am he sa ro fa kd sp hu be ea hv 
set_option maxHeartbeats 4000000 in
theorem C_X3_wouldPass {K : zK} (hI : zInj K) (hN : kN K = 85) (c : CS) (j : Nat) (hj : j < 12) (n am he sa ro fa : Int) (kd sp hu be ea : Int → Int) (hv : okV (n, am, he, sa, ro, fa, kd, sp, hu, be, ea)) : zCi K yX3_wouldPass cX3_wouldPass 1 (some .boolean) 4 [.ref (kad K (6 * j + 13))] (layC K (wS c j (n, am, he, sa, ro, fa, kd, sp, hu, be, ea))) (fun z u => z = passI (n, am, he, sa, ro, fa, kd, sp, hu, be, ea) ∧ u = (layC K (wS c j (n, am, he, sa, ro, fa, kd, sp, hu, be, ea)))) := by
  obtain ⟨hn, ham, hhe, hsa, hro, hfa, hm⟩ : (0 ≤ n ∧ n ≤ 7) ∧ (0 ≤ am ∧ am ≤ 99) ∧ (0 ≤ he ∧ he ≤ 9) ∧ (0 ≤ sa ∧ sa ≤ 9) ∧ (1 ≤ ro ∧ ro ≤ 20) ∧ (1 ≤ fa ∧ fa ≤ 20) ∧ ∀ i : Int, 0 ≤ i → i < n → okM (kd i) (sp i) (hu i) (be i) := id hv
  refine zCi_in hI (by decide +kernel) (Nat.le_of_ble_eq_true rfl) (fun X O hE => ?_)
  refine n_aload_n O dX3_wouldPass_0 rfl ?_
  refine r_callV0i O (C_X3_reachOfAll hI hN _ _ hj _ _ _ _ _ _ _ _ _ _ _ hv) q_X3_82 (by rw [hN]; omega) (lay_q K _ _ _ 0 (by omega) (by decide) rfl) rfl rfl (by decide) (by decide) (Nat.le_of_ble_eq_true rfl) dX3_wouldPass_1 (fun zz1 zu1 hz1 => ?_)
  obtain ⟨rfl, rfl⟩ := hz1
  have hra : 0 ≤ reachA (n, am, he, sa, ro, fa, kd, sp, hu, be, ea) n.toNat ∧ reachA (n, am, he, sa, ro, fa, kd, sp, hu, be, ea) n.toNat ≤ 60 * (n.toNat : Int) := reachA_b hv n.toNat (by show (n.toNat : Int) ≤ n; omega)
  refine n_aload_n O dX3_wouldPass_4 rfl ?_
  refine s_get_am O hN hj fl_X3_31 dX3_wouldPass_5 ?_
  refine r_icmp_lt (tgt := 15) O ⟨by omega, by omega⟩ ⟨by omega, by omega⟩ dX3_wouldPass_8 (by decide) (fun hc8 => ?_) (fun hc8 => ?_)
  · skip
    refine r_iconst O dX3_wouldPass_15 ?_
    exact hE _ _ _ _ dX3_wouldPass_16 (nar01 (by omega)) ⟨by show _ = (if am ≤ reachA (n, am, he, sa, ro, fa, kd, sp, hu, be, ea) n.toNat then (1 : Int) else 0); split <;> omega, rfl⟩
  · skip
    refine r_iconst O dX3_wouldPass_11 ?_
    refine r_goto (tgt := 16) O dX3_wouldPass_12 (by decide) ?_
    exact hE _ _ _ _ dX3_wouldPass_16 (nar01 (by omega)) ⟨by show _ = (if am ≤ reachA (n, am, he, sa, ro, fa, kd, sp, hu, be, ea) n.toNat then (1 : Int) else 0); split <;> omega, rfl⟩
theorem D_X3_wouldPass {K : zK} (hI : zInj K) (hN : kN K = 85) (c : CS) (j : Nat) (hj : j < 12) (v : SV) (hv : okV v)  : zCi K yX3_wouldPass cX3_wouldPass 1 (some .boolean) 4 [.ref (kad K (6 * j + 13))] (layC K (wS c j v)) (fun z u => z = passI v ∧ u = layC K (wS c j v)) := by
  obtain ⟨n, am, he, sa, ro, fa, kd, sp, hu, be, ea⟩ := v
  exact C_X3_wouldPass hI hN c j hj n am he sa ro fa kd sp hu be ea hv 
set_option maxHeartbeats 4000000 in
theorem C_X3_sum_hu {K : zK} (hI : zInj K) (hN : kN K = 85) (c : CS) (j : Nat) (hj : j < 12) (n am he sa ro fa : Int) (kd sp hu be ea : Int → Int) (hv : okV (n, am, he, sa, ro, fa, kd, sp, hu, be, ea)) : zCi K yX3_sum cX3_sum 4 (some .int) 0 [.ref (kad K (6 * j + 13)), .ref (kad K (6 * j + 16))] (layC K (wS c j (n, am, he, sa, ro, fa, kd, sp, hu, be, ea))) (fun z u => z = sumI hu n.toNat ∧ u = (layC K (wS c j (n, am, he, sa, ro, fa, kd, sp, hu, be, ea)))) := by
  obtain ⟨hn, ham, hhe, hsa, hro, hfa, hm⟩ : (0 ≤ n ∧ n ≤ 7) ∧ (0 ≤ am ∧ am ≤ 99) ∧ (0 ≤ he ∧ he ≤ 9) ∧ (0 ≤ sa ∧ sa ≤ 9) ∧ (1 ≤ ro ∧ ro ≤ 20) ∧ (1 ≤ fa ∧ fa ≤ 20) ∧ ∀ i : Int, 0 ≤ i → i < n → okM (kd i) (sp i) (hu i) (be i) := id hv
  refine zCi_in hI (by decide +kernel) (Nat.le_of_ble_eq_true rfl) (fun X O hE => ?_)
  refine r_iconst O dX3_sum_0 ?_
  refine n_istore_n O dX3_sum_1 (by decide) rfl ?_
  refine r_iconst O dX3_sum_2 ?_
  refine n_istore_n O dX3_sum_3 (by decide) rfl ?_
  have L4 : ∀ (zk : Nat) (i : Nat), ((i : Int) ≤ n) → 7 - i = zk → G K X 4 4 [(0, .ref (kad K (6 * j + 13))), (1, .ref (kad K (6 * j + 16))), (2, .int (iI (sumI hu i))), (3, .int (iI (i : Int)))] [] (layC K (wS c j (n, am, he, sa, ro, fa, kd, sp, hu, be, ea))) := by
    intro zk
    induction zk using Nat.strongRecOn with
    | ind zk ih4 =>
      intro i hinv hk
      refine n_iload_n O dX3_sum_4 rfl ?_
      refine n_aload_n O dX3_sum_5 rfl ?_
      refine s_get_n O hN hj fl_X3_27 dX3_sum_6 ?_
      refine r_icmp_ge (tgt := 30) O ⟨by omega, by omega⟩ ⟨by omega, by omega⟩ dX3_sum_9 (by decide) (fun hc9 => ?_) (fun hc9 => ?_)
      · skip
        refine n_iload_n O dX3_sum_30 rfl ?_
        exact hE _ _ _ _ dX3_sum_31 rfl (by have hin : n.toNat = i := (by omega); rw [hin]; exact ⟨rfl, rfl⟩)
      · skip
        refine n_iload_n O dX3_sum_12 rfl ?_
        refine n_aload_n O dX3_sum_13 rfl ?_
        refine s_len_hu O hN hj dX3_sum_14 ?_
        refine r_icmp_ge (tgt := 30) O ⟨by omega, by omega⟩ ⟨by omega, by omega⟩ dX3_sum_15 (by decide) (fun hc15 => ?_) (fun hc15 => ?_)
        · skip
          refine n_iload_n O dX3_sum_30 rfl ?_
          exact hE _ _ _ _ dX3_sum_31 rfl (by have hin : n.toNat = i := (by omega); rw [hin]; exact ⟨rfl, rfl⟩)
        · skip
          refine n_iload_n O dX3_sum_18 rfl ?_
          refine n_aload_n O dX3_sum_19 rfl ?_
          refine n_iload_n O dX3_sum_20 rfl ?_
          refine s_ld_hu O hN hj (by omega) (by omega) dX3_sum_21 ?_
          refine r_iadd O dX3_sum_22 ?_
          refine n_istore_n O dX3_sum_23 (by decide) rfl ?_
          refine n_iinc O dX3_sum_24 (by decide) rfl rfl ?_
          refine r_goto (tgt := 4) O dX3_sum_27 (by decide) ?_
          exact G_chk (ih4 _ (by omega) (i + 1) (by omega) rfl) (zsc rfl (zsc rfl (zsc rfl (zsc rfl zsn))))
  exact G_chk (L4 _ 0 (by omega) rfl) (zsc rfl (zsc rfl (zsc rfl (zsc rfl zsn))))
set_option maxHeartbeats 4000000 in
theorem C_X3_sum_ea {K : zK} (hI : zInj K) (hN : kN K = 85) (c : CS) (j : Nat) (hj : j < 12) (n am he sa ro fa : Int) (kd sp hu be ea : Int → Int) (hv : okV (n, am, he, sa, ro, fa, kd, sp, hu, be, ea)) : zCi K yX3_sum cX3_sum 4 (some .int) 0 [.ref (kad K (6 * j + 13)), .ref (kad K (6 * j + 18))] (layC K (wS c j (n, am, he, sa, ro, fa, kd, sp, hu, be, ea))) (fun z u => z = sumI ea n.toNat ∧ u = (layC K (wS c j (n, am, he, sa, ro, fa, kd, sp, hu, be, ea)))) := by
  obtain ⟨hn, ham, hhe, hsa, hro, hfa, hm⟩ : (0 ≤ n ∧ n ≤ 7) ∧ (0 ≤ am ∧ am ≤ 99) ∧ (0 ≤ he ∧ he ≤ 9) ∧ (0 ≤ sa ∧ sa ≤ 9) ∧ (1 ≤ ro ∧ ro ≤ 20) ∧ (1 ≤ fa ∧ fa ≤ 20) ∧ ∀ i : Int, 0 ≤ i → i < n → okM (kd i) (sp i) (hu i) (be i) := id hv
  refine zCi_in hI (by decide +kernel) (Nat.le_of_ble_eq_true rfl) (fun X O hE => ?_)
  refine r_iconst O dX3_sum_0 ?_
  refine n_istore_n O dX3_sum_1 (by decide) rfl ?_
  refine r_iconst O dX3_sum_2 ?_
  refine n_istore_n O dX3_sum_3 (by decide) rfl ?_
  have L4 : ∀ (zk : Nat) (i : Nat), ((i : Int) ≤ n) → 7 - i = zk → G K X 4 4 [(0, .ref (kad K (6 * j + 13))), (1, .ref (kad K (6 * j + 18))), (2, .int (iI (sumI ea i))), (3, .int (iI (i : Int)))] [] (layC K (wS c j (n, am, he, sa, ro, fa, kd, sp, hu, be, ea))) := by
    intro zk
    induction zk using Nat.strongRecOn with
    | ind zk ih4 =>
      intro i hinv hk
      refine n_iload_n O dX3_sum_4 rfl ?_
      refine n_aload_n O dX3_sum_5 rfl ?_
      refine s_get_n O hN hj fl_X3_27 dX3_sum_6 ?_
      refine r_icmp_ge (tgt := 30) O ⟨by omega, by omega⟩ ⟨by omega, by omega⟩ dX3_sum_9 (by decide) (fun hc9 => ?_) (fun hc9 => ?_)
      · skip
        refine n_iload_n O dX3_sum_30 rfl ?_
        exact hE _ _ _ _ dX3_sum_31 rfl (by have hin : n.toNat = i := (by omega); rw [hin]; exact ⟨rfl, rfl⟩)
      · skip
        refine n_iload_n O dX3_sum_12 rfl ?_
        refine n_aload_n O dX3_sum_13 rfl ?_
        refine s_len_ea O hN hj dX3_sum_14 ?_
        refine r_icmp_ge (tgt := 30) O ⟨by omega, by omega⟩ ⟨by omega, by omega⟩ dX3_sum_15 (by decide) (fun hc15 => ?_) (fun hc15 => ?_)
        · skip
          refine n_iload_n O dX3_sum_30 rfl ?_
          exact hE _ _ _ _ dX3_sum_31 rfl (by have hin : n.toNat = i := (by omega); rw [hin]; exact ⟨rfl, rfl⟩)
        · skip
          refine n_iload_n O dX3_sum_18 rfl ?_
          refine n_aload_n O dX3_sum_19 rfl ?_
          refine n_iload_n O dX3_sum_20 rfl ?_
          refine s_ld_ea O hN hj (by omega) (by omega) dX3_sum_21 ?_
          refine r_iadd O dX3_sum_22 ?_
          refine n_istore_n O dX3_sum_23 (by decide) rfl ?_
          refine n_iinc O dX3_sum_24 (by decide) rfl rfl ?_
          refine r_goto (tgt := 4) O dX3_sum_27 (by decide) ?_
          exact G_chk (ih4 _ (by omega) (i + 1) (by omega) rfl) (zsc rfl (zsc rfl (zsc rfl (zsc rfl zsn))))
  exact G_chk (L4 _ 0 (by omega) rfl) (zsc rfl (zsc rfl (zsc rfl (zsc rfl zsn))))
set_option maxHeartbeats 4000000 in
theorem C_X3_hungerOfAll {K : zK} (hI : zInj K) (hN : kN K = 85) (c : CS) (j : Nat) (hj : j < 12) (n am he sa ro fa : Int) (kd sp hu be ea : Int → Int) (hv : okV (n, am, he, sa, ro, fa, kd, sp, hu, be, ea)) : zCi K yX3_hungerOfAll cX3_hungerOfAll 1 (some .int) 1 [.ref (kad K (6 * j + 13))] (layC K (wS c j (n, am, he, sa, ro, fa, kd, sp, hu, be, ea))) (fun z u => z = sumI hu n.toNat ∧ u = (layC K (wS c j (n, am, he, sa, ro, fa, kd, sp, hu, be, ea)))) := by
  refine zCi_in hI (by decide +kernel) (Nat.le_of_ble_eq_true rfl) (fun X O hE => ?_)
  refine n_aload_n O dX3_hungerOfAll_0 rfl ?_
  refine n_aload_n O dX3_hungerOfAll_1 rfl ?_
  refine s_arr_hu O hN hj fl_X3_18 dX3_hungerOfAll_2 ?_
  refine r_callV1i O (C_X3_sum_hu hI hN _ _ hj _ _ _ _ _ _ _ _ _ _ _ hv) q_X3_98 (by rw [hN]; omega) (lay_q K _ _ _ 0 (by omega) (by decide) rfl) rfl rfl (by decide) (by decide) (Nat.le_of_ble_eq_true rfl) dX3_hungerOfAll_5 (fun zz5 zu5 hz5 => ?_)
  obtain ⟨rfl, rfl⟩ := hz5
  exact hE _ _ _ _ dX3_hungerOfAll_8 rfl ⟨rfl, rfl⟩
theorem D_X3_hungerOfAll {K : zK} (hI : zInj K) (hN : kN K = 85) (c : CS) (j : Nat) (hj : j < 12) (v : SV) (hv : okV v)  : zCi K yX3_hungerOfAll cX3_hungerOfAll 1 (some .int) 1 [.ref (kad K (6 * j + 13))] (layC K (wS c j v)) (fun z u => z = sumI (qhu v) (qn v).toNat ∧ u = layC K (wS c j v)) := by
  obtain ⟨n, am, he, sa, ro, fa, kd, sp, hu, be, ea⟩ := v
  exact C_X3_hungerOfAll hI hN c j hj n am he sa ro fa kd sp hu be ea hv 
set_option maxHeartbeats 4000000 in
theorem C_X3_eatenInAll {K : zK} (hI : zInj K) (hN : kN K = 85) (c : CS) (j : Nat) (hj : j < 12) (n am he sa ro fa : Int) (kd sp hu be ea : Int → Int) (hv : okV (n, am, he, sa, ro, fa, kd, sp, hu, be, ea)) : zCi K yX3_eatenInAll cX3_eatenInAll 1 (some .int) 1 [.ref (kad K (6 * j + 13))] (layC K (wS c j (n, am, he, sa, ro, fa, kd, sp, hu, be, ea))) (fun z u => z = sumI ea n.toNat ∧ u = (layC K (wS c j (n, am, he, sa, ro, fa, kd, sp, hu, be, ea)))) := by
  refine zCi_in hI (by decide +kernel) (Nat.le_of_ble_eq_true rfl) (fun X O hE => ?_)
  refine n_aload_n O dX3_eatenInAll_0 rfl ?_
  refine n_aload_n O dX3_eatenInAll_1 rfl ?_
  refine s_arr_ea O hN hj fl_X3_24 dX3_eatenInAll_2 ?_
  refine r_callV1i O (C_X3_sum_ea hI hN _ _ hj _ _ _ _ _ _ _ _ _ _ _ hv) q_X3_98 (by rw [hN]; omega) (lay_q K _ _ _ 0 (by omega) (by decide) rfl) rfl rfl (by decide) (by decide) (Nat.le_of_ble_eq_true rfl) dX3_eatenInAll_5 (fun zz5 zu5 hz5 => ?_)
  obtain ⟨rfl, rfl⟩ := hz5
  exact hE _ _ _ _ dX3_eatenInAll_8 rfl ⟨rfl, rfl⟩
theorem D_X3_eatenInAll {K : zK} (hI : zInj K) (hN : kN K = 85) (c : CS) (j : Nat) (hj : j < 12) (v : SV) (hv : okV v)  : zCi K yX3_eatenInAll cX3_eatenInAll 1 (some .int) 1 [.ref (kad K (6 * j + 13))] (layC K (wS c j v)) (fun z u => z = sumI (qea v) (qn v).toNat ∧ u = layC K (wS c j v)) := by
  obtain ⟨n, am, he, sa, ro, fa, kd, sp, hu, be, ea⟩ := v
  exact C_X3_eatenInAll hI hN c j hj n am he sa ro fa kd sp hu be ea hv 
set_option maxHeartbeats 4000000 in
theorem C_X3_fastDay {K : zK} (hI : zInj K) (hN : kN K = 85) (c : CS) (j : Nat) (hj : j < 12) (n am he sa ro fa : Int) (kd sp hu be ea : Int → Int) (hv : okV (n, am, he, sa, ro, fa, kd, sp, hu, be, ea)) : zCv K yX3_fastDay cX3_fastDay 2 1 [.ref (kad K (6 * j + 13))] (layC K (wS c j (n, am, he, sa, ro, fa, kd, sp, hu, be, ea))) (fun u => u = layC K (wS c j (fastV (n, am, he, sa, ro, fa, kd, sp, hu, be, ea)))) := by
  obtain ⟨hn, ham, hhe, hsa, hro, hfa, hm⟩ : (0 ≤ n ∧ n ≤ 7) ∧ (0 ≤ am ∧ am ≤ 99) ∧ (0 ≤ he ∧ he ≤ 9) ∧ (0 ≤ sa ∧ sa ≤ 9) ∧ (1 ≤ ro ∧ ro ≤ 20) ∧ (1 ≤ fa ∧ fa ≤ 20) ∧ ∀ i : Int, 0 ≤ i → i < n → okM (kd i) (sp i) (hu i) (be i) := id hv
  refine zCv_in hI (by decide +kernel) (Nat.le_of_ble_eq_true rfl) (fun X O hE => ?_)
  refine r_iconst O dX3_fastDay_0 ?_
  refine n_istore_n O dX3_fastDay_1 (by decide) rfl ?_
  have L2 : ∀ (zk : Nat) (i : Nat), ((i : Int) ≤ n) → 7 - i = zk → G K X 2 2 [(0, .ref (kad K (6 * j + 13))), (1, .int (iI (i : Int)))] [] (layC K (wS c j (n, am, he, sa, ro, fa, kd, sp, (fastN (n, am, he, sa, ro, fa, kd, sp, hu, be, ea) i), be, ea))) := by
    intro zk
    induction zk using Nat.strongRecOn with
    | ind zk ih2 =>
      intro i hinv hk
      refine n_iload_n O dX3_fastDay_2 rfl ?_
      refine n_aload_n O dX3_fastDay_3 rfl ?_
      refine s_get_n O hN hj fl_X3_27 dX3_fastDay_4 ?_
      refine r_icmp_ge (tgt := 38) O ⟨by omega, by omega⟩ ⟨by omega, by omega⟩ dX3_fastDay_7 (by decide) (fun hc7 => ?_) (fun hc7 => ?_)
      · skip
        refine n_aload_n O dX3_fastDay_38 rfl ?_
        refine r_iconst O dX3_fastDay_39 ?_
        refine s_put_he O hN hj fl_X3_34 dX3_fastDay_40 ?_
        exact hE _ _ _ dX3_fastDay_43 (by have hin : n.toNat = i := (by omega); show _ = layC K (wS c j (n, am, 0, sa, ro, fa, kd, sp, fastN (n, am, he, sa, ro, fa, kd, sp, hu, be, ea) n.toNat, be, ea)); rw [hin])
      · skip
        have hmi : okM (kd (i : Int)) (sp (i : Int)) (hu (i : Int)) (be (i : Int)) := hm i (by omega) (by omega)
        have h3 := hmi.2.2.1
        have hf : fastN (n, am, he, sa, ro, fa, kd, sp, hu, be, ea) i (i : Int) = hu (i : Int) := by rw [fastN_eq, if_neg (by omega)]; rfl
        refine n_aload_n O dX3_fastDay_10 rfl ?_
        refine s_arr_hu O hN hj fl_X3_18 dX3_fastDay_11 ?_
        refine n_iload_n O dX3_fastDay_14 rfl ?_
        refine n_aload_n O dX3_fastDay_15 rfl ?_
        refine s_arr_hu O hN hj fl_X3_18 dX3_fastDay_16 ?_
        refine n_iload_n O dX3_fastDay_19 rfl ?_
        refine s_ld_hu O hN hj (by omega) (by omega) dX3_fastDay_20 ?_
        refine n_aload_n O dX3_fastDay_21 rfl ?_
        refine s_get_fa O hN hj fl_X3_43 dX3_fastDay_22 ?_
        refine r_iadd O dX3_fastDay_25 ?_
        refine r_bipush O (by decide +kernel) dX3_fastDay_26 ?_
        refine r_min O qm_X3_60 (by decide) (Nat.le_of_ble_eq_true rfl) ⟨by omega, by omega⟩ ⟨by omega, by omega⟩ dX3_fastDay_28 ?_
        refine s_st_hu O hN hj (by omega) (by omega) dX3_fastDay_31 ?_
        refine n_iinc O dX3_fastDay_32 (by decide) rfl rfl ?_
        refine r_goto (tgt := 2) O dX3_fastDay_35 (by decide) ?_
        exact G_chk (ih2 _ (by omega) (i + 1) (by omega) rfl) (zsc rfl (zsc rfl zsn))
  exact G_chk (L2 _ 0 (by omega) rfl) (zsc rfl (zsc rfl zsn))
theorem D_X3_fastDay {K : zK} (hI : zInj K) (hN : kN K = 85) (c : CS) (j : Nat) (hj : j < 12) (v : SV) (hv : okV v)  : zCv K yX3_fastDay cX3_fastDay 2 1 [.ref (kad K (6 * j + 13))] (layC K (wS c j v)) (fun u => u = layC K (wS c j (fastV v))) := by
  obtain ⟨n, am, he, sa, ro, fa, kd, sp, hu, be, ea⟩ := v
  exact C_X3_fastDay hI hN c j hj n am he sa ro fa kd sp hu be ea hv 
set_option maxHeartbeats 4000000 in
theorem C_X3_liveBy {K : zK} (hI : zInj K) (hN : kN K = 85) (c : CS) (j : Nat) (hj : j < 12) (n am he sa ro fa : Int) (kd sp hu be ea : Int → Int) (hv : okV (n, am, he, sa, ro, fa, kd, sp, hu, be, ea)) (d : Int) (hd0 : 0 ≤ d) (hd1 : d ≤ 8190) : zCv K yX3_liveBy cX3_liveBy 3 4 [.ref (kad K (6 * j + 13)), .int (iI d)] (layC K (wS c j (n, am, he, sa, ro, fa, kd, sp, hu, be, ea))) (fun u => u = layC K (wS c j (liveV (n, am, he, sa, ro, fa, kd, sp, hu, be, ea) d))) := by
  obtain ⟨hn, ham, hhe, hsa, hro, hfa, hm⟩ : (0 ≤ n ∧ n ≤ 7) ∧ (0 ≤ am ∧ am ≤ 99) ∧ (0 ≤ he ∧ he ≤ 9) ∧ (0 ≤ sa ∧ sa ≤ 9) ∧ (1 ≤ ro ∧ ro ≤ 20) ∧ (1 ≤ fa ∧ fa ≤ 20) ∧ ∀ i : Int, 0 ≤ i → i < n → okM (kd i) (sp i) (hu i) (be i) := id hv
  have e1 : 0 ≤ d / 4 := by omega
  refine zCv_in hI (by decide +kernel) (Nat.le_of_ble_eq_true rfl) (fun X O hE => ?_)
  refine n_iload_n O dX3_liveBy_0 rfl ?_
  refine r_iconst O dX3_liveBy_1 ?_
  refine r_idiv O (iI_ne0 (by decide) (by decide)) (iI_div (by omega) (by omega) (by decide) (by decide)) dX3_liveBy_2 ?_
  refine n_istore_n O dX3_liveBy_3 (by decide) rfl ?_
  refine n_iload_n O dX3_liveBy_4 rfl ?_
  refine r_iconst O dX3_liveBy_5 ?_
  refine r_irem O (iI_ne0 (by decide) (by decide)) (iI_rem (by omega) (by omega) (by decide) (by decide)) dX3_liveBy_6 ?_
  have hsw : d % 4 < 0 ∨ 2 < d % 4 ∨ d % 4 = 0 ∨ d % 4 = 1 ∨ d % 4 = 2 := by omega
  rcases hsw with hsw | hsw | hsw | hsw | hsw
  · skip
    exfalso; omega
  · skip
    refine r_tabOut (tgt := 75) O ⟨by omega, by omega⟩ dX3_liveBy_7 (Or.inr hsw) (by decide) ?_
    refine n_aload_n O dX3_liveBy_75 rfl ?_
    refine r_callV0v O (D_X3_fastDay hI hN _ _ hj _ hv) q_X3_95 (by rw [hN]; omega) (lay_q K _ _ _ 0 (by omega) (by decide) rfl) rfl rfl (by decide) (by decide) (Nat.le_of_ble_eq_true rfl) dX3_liveBy_76 (fun zu76 hz76 => ?_)
    obtain rfl := hz76
    exact hE _ _ _ dX3_liveBy_79 (by show _ = layC K (wS c j (liveV (n, am, he, sa, ro, fa, kd, sp, hu, be, ea) d)); unfold liveV; repeat (first | rw [if_pos (by omega)] | rw [if_neg (by omega)] | rw [if_pos (by show am < _; omega)] | rw [if_neg (by show ¬ am < _; omega)]))
  · skip
    refine r_tabIn (off := 25) (tgt := 32) O ⟨by omega, by omega⟩ dX3_liveBy_7 (by omega) (by omega) (by rw [hsw]; rfl) (by decide) ?_
    refine n_aload_n O dX3_liveBy_32 rfl ?_
    refine r_callV0i O (D_X3_eatRound hI hN _ _ hj _ hv) q_X3_75 (by rw [hN]; omega) (lay_q K _ _ _ 0 (by omega) (by decide) rfl) rfl rfl (by decide) (by decide) (Nat.le_of_ble_eq_true rfl) dX3_liveBy_33 (fun zz33 zu33 hz33 => ?_)
    obtain ⟨rfl, rfl⟩ := hz33
    refine r_pop O rfl dX3_liveBy_36 ?_
    refine r_goto (tgt := 79) O dX3_liveBy_37 (by decide) ?_
    exact hE _ _ _ dX3_liveBy_79 (by show _ = layC K (wS c j (liveV (n, am, he, sa, ro, fa, kd, sp, hu, be, ea) d)); unfold liveV; repeat (first | rw [if_pos (by omega)] | rw [if_neg (by omega)] | rw [if_pos (by show am < _; omega)] | rw [if_neg (by show ¬ am < _; omega)]))
  · skip
    refine r_tabIn (off := 33) (tgt := 40) O ⟨by omega, by omega⟩ dX3_liveBy_7 (by omega) (by omega) (by rw [hsw]; rfl) (by decide) ?_
    refine n_iload_n O dX3_liveBy_40 rfl ?_
    refine r_bipush O (by decide +kernel) dX3_liveBy_41 ?_
    refine r_irem O (iI_ne0 (by decide) (by decide)) (iI_rem (by omega) (by omega) (by decide) (by decide)) dX3_liveBy_43 ?_
    refine n_aload_n O dX3_liveBy_44 rfl ?_
    refine s_get_am O hN hj fl_X3_31 dX3_liveBy_45 ?_
    refine r_icmp_le (tgt := 79) O ⟨by omega, by omega⟩ ⟨by omega, by omega⟩ dX3_liveBy_48 (by decide) (fun hc48 => ?_) (fun hc48 => ?_)
    · skip
      exact hE _ _ _ dX3_liveBy_79 (by show _ = layC K (wS c j (liveV (n, am, he, sa, ro, fa, kd, sp, hu, be, ea) d)); unfold liveV; repeat (first | rw [if_pos (by omega)] | rw [if_neg (by omega)] | rw [if_pos (by show am < _; omega)] | rw [if_neg (by show ¬ am < _; omega)]))
    · skip
      refine n_aload_n O dX3_liveBy_51 rfl ?_
      refine n_iload_n O dX3_liveBy_52 rfl ?_
      refine r_bipush O (by decide +kernel) dX3_liveBy_53 ?_
      refine r_irem O (iI_ne0 (by decide) (by decide)) (iI_rem (by omega) (by omega) (by decide) (by decide)) dX3_liveBy_55 ?_
      refine r_callV1v O (D_X3_cookTo hI hN _ _ hj _ _) q_X3_88 (by rw [hN]; omega) (lay_q K _ _ _ 0 (by omega) (by decide) rfl) rfl rfl (by decide) (by decide) (Nat.le_of_ble_eq_true rfl) dX3_liveBy_56 (fun zu56 hz56 => ?_)
      obtain rfl := hz56
      refine r_goto (tgt := 79) O dX3_liveBy_59 (by decide) ?_
      exact hE _ _ _ dX3_liveBy_79 (by show _ = layC K (wS c j (liveV (n, am, he, sa, ro, fa, kd, sp, hu, be, ea) d)); unfold liveV; repeat (first | rw [if_pos (by omega)] | rw [if_neg (by omega)] | rw [if_pos (by show am < _; omega)] | rw [if_neg (by show ¬ am < _; omega)]))
  · skip
    refine r_tabIn (off := 55) (tgt := 62) O ⟨by omega, by omega⟩ dX3_liveBy_7 (by omega) (by omega) (by rw [hsw]; rfl) (by decide) ?_
    refine n_iload_n O dX3_liveBy_62 rfl ?_
    refine r_iconst O dX3_liveBy_63 ?_
    refine r_irem O (iI_ne0 (by decide) (by decide)) (iI_rem (by omega) (by omega) (by decide) (by decide)) dX3_liveBy_64 ?_
    refine r_if_ne (tgt := 79) O ⟨by omega, by omega⟩ dX3_liveBy_65 (by decide) (fun hc65 => ?_) (fun hc65 => ?_)
    · skip
      exact hE _ _ _ dX3_liveBy_79 (by show _ = layC K (wS c j (liveV (n, am, he, sa, ro, fa, kd, sp, hu, be, ea) d)); unfold liveV; repeat (first | rw [if_pos (by omega)] | rw [if_neg (by omega)] | rw [if_pos (by show am < _; omega)] | rw [if_neg (by show ¬ am < _; omega)]))
    · skip
      refine n_aload_n O dX3_liveBy_68 rfl ?_
      refine r_callV0v O (D_X3_putSalt hI hN _ _ hj _ hv) q_X3_92 (by rw [hN]; omega) (lay_q K _ _ _ 0 (by omega) (by decide) rfl) rfl rfl (by decide) (by decide) (Nat.le_of_ble_eq_true rfl) dX3_liveBy_69 (fun zu69 hz69 => ?_)
      obtain rfl := hz69
      refine r_goto (tgt := 79) O dX3_liveBy_72 (by decide) ?_
      exact hE _ _ _ dX3_liveBy_79 (by show _ = layC K (wS c j (liveV (n, am, he, sa, ro, fa, kd, sp, hu, be, ea) d)); unfold liveV; repeat (first | rw [if_pos (by omega)] | rw [if_neg (by omega)] | rw [if_pos (by show am < _; omega)] | rw [if_neg (by show ¬ am < _; omega)]))
theorem D_X3_liveBy {K : zK} (hI : zInj K) (hN : kN K = 85) (c : CS) (j : Nat) (hj : j < 12) (v : SV) (hv : okV v) (d : Int) (hd0 : 0 ≤ d) (hd1 : d ≤ 8190) : zCv K yX3_liveBy cX3_liveBy 3 4 [.ref (kad K (6 * j + 13)), .int (iI d)] (layC K (wS c j v)) (fun u => u = layC K (wS c j (liveV v d))) := by
  obtain ⟨n, am, he, sa, ro, fa, kd, sp, hu, be, ea⟩ := v
  exact C_X3_liveBy hI hN c j hj n am he sa ro fa kd sp hu be ea hv d hd0 hd1
set_option maxHeartbeats 4000000 in
theorem C_X3_takeMember {K : zK} (hI : zInj K) (hN : kN K = 85) (c : CS) (j : Nat) (hj : j < 12) (n am he sa ro fa : Int) (kd sp hu be ea : Int → Int) (hn : 0 ≤ n ∧ n ≤ 7) (k s h b : Int) (bk : zB k) (bs : zB s) (bh : zB h) (bb : zB b)  : zCi K yX3_takeMember cX3_takeMember 5 (some .boolean) 1 [.ref (kad K (6 * j + 13)), .int (iI k), .int (iI s), .int (iI h), .int (iI b)] (layC K (wS c j (n, am, he, sa, ro, fa, kd, sp, hu, be, ea))) (fun z u => ((okM k s h b ∧ n ≤ 6) ∧ z = 1 ∧ u = layC K (wS c j (memV (n, am, he, sa, ro, fa, kd, sp, hu, be, ea) k s h b))) ∨ (¬ (okM k s h b ∧ n ≤ 6) ∧ z = 0 ∧ u = (layC K (wS c j (n, am, he, sa, ro, fa, kd, sp, hu, be, ea))))) := by
  obtain ⟨bk1, bk2⟩ := id bk
  obtain ⟨bs1, bs2⟩ := id bs
  obtain ⟨bh1, bh2⟩ := id bh
  obtain ⟨bb1, bb2⟩ := id bb
  refine zCi_in hI (by decide +kernel) (Nat.le_of_ble_eq_true rfl) (fun X O hE => ?_)
  refine n_iload_n O dX3_takeMember_0 rfl ?_
  refine r_iconst O dX3_takeMember_1 ?_
  refine r_iconst O dX3_takeMember_2 ?_
  refine r_callN3i O (C_X5_isOutside hI _ _ _ _ ⟨by omega, by omega⟩ ⟨by omega, by omega⟩ ⟨by omega, by omega⟩) q_X3_46 (by decide) (by decide) (Nat.le_of_ble_eq_true rfl) dX3_takeMember_3 (fun zz3 zu3 hz3 => ?_)
  obtain ⟨hz3, rfl⟩ := hz3
  have ho3 := outV_c hz3
  refine r_if_ne (tgt := 53) O ⟨by omega, by omega⟩ dX3_takeMember_6 (by decide) (fun hc6 => ?_) (fun hc6 => ?_)
  · skip
    refine r_iconst O dX3_takeMember_53 ?_
    exact hE _ _ _ _ dX3_takeMember_54 (nar01 (by omega)) (by first | exact Or.inr ⟨by unfold okM; omega, rfl, rfl⟩ | exact Or.inl ⟨by unfold okM; omega, rfl, rfl⟩ | exact Or.inr ⟨by omega, rfl, rfl⟩ | exact Or.inl ⟨by omega, rfl, rfl⟩)
  · skip
    refine n_iload_n O dX3_takeMember_9 rfl ?_
    refine r_iconst O dX3_takeMember_10 ?_
    refine r_bipush O (by decide +kernel) dX3_takeMember_11 ?_
    refine r_callN3i O (C_X5_isOutside hI _ _ _ _ ⟨by omega, by omega⟩ ⟨by omega, by omega⟩ ⟨by omega, by omega⟩) q_X3_46 (by decide) (by decide) (Nat.le_of_ble_eq_true rfl) dX3_takeMember_13 (fun zz13 zu13 hz13 => ?_)
    obtain ⟨hz13, rfl⟩ := hz13
    have ho13 := outV_c hz13
    refine r_if_ne (tgt := 53) O ⟨by omega, by omega⟩ dX3_takeMember_16 (by decide) (fun hc16 => ?_) (fun hc16 => ?_)
    · skip
      refine r_iconst O dX3_takeMember_53 ?_
      exact hE _ _ _ _ dX3_takeMember_54 (nar01 (by omega)) (by first | exact Or.inr ⟨by unfold okM; omega, rfl, rfl⟩ | exact Or.inl ⟨by unfold okM; omega, rfl, rfl⟩ | exact Or.inr ⟨by omega, rfl, rfl⟩ | exact Or.inl ⟨by omega, rfl, rfl⟩)
    · skip
      refine n_iload_n O dX3_takeMember_19 rfl ?_
      refine r_iconst O dX3_takeMember_20 ?_
      refine r_bipush O (by decide +kernel) dX3_takeMember_21 ?_
      refine r_callN3i O (C_X5_isOutside hI _ _ _ _ ⟨by omega, by omega⟩ ⟨by omega, by omega⟩ ⟨by omega, by omega⟩) q_X3_46 (by decide) (by decide) (Nat.le_of_ble_eq_true rfl) dX3_takeMember_23 (fun zz23 zu23 hz23 => ?_)
      obtain ⟨hz23, rfl⟩ := hz23
      have ho23 := outV_c hz23
      refine r_if_ne (tgt := 53) O ⟨by omega, by omega⟩ dX3_takeMember_26 (by decide) (fun hc26 => ?_) (fun hc26 => ?_)
      · skip
        refine r_iconst O dX3_takeMember_53 ?_
        exact hE _ _ _ _ dX3_takeMember_54 (nar01 (by omega)) (by first | exact Or.inr ⟨by unfold okM; omega, rfl, rfl⟩ | exact Or.inl ⟨by unfold okM; omega, rfl, rfl⟩ | exact Or.inr ⟨by omega, rfl, rfl⟩ | exact Or.inl ⟨by omega, rfl, rfl⟩)
      · skip
        refine n_iload O dX3_takeMember_29 rfl ?_
        refine r_iconst O dX3_takeMember_31 ?_
        refine r_bipush O (by decide +kernel) dX3_takeMember_32 ?_
        refine r_callN3i O (C_X5_isOutside hI _ _ _ _ ⟨by omega, by omega⟩ ⟨by omega, by omega⟩ ⟨by omega, by omega⟩) q_X3_46 (by decide) (by decide) (Nat.le_of_ble_eq_true rfl) dX3_takeMember_34 (fun zz34 zu34 hz34 => ?_)
        obtain ⟨hz34, rfl⟩ := hz34
        have ho34 := outV_c hz34
        refine r_if_ne (tgt := 53) O ⟨by omega, by omega⟩ dX3_takeMember_37 (by decide) (fun hc37 => ?_) (fun hc37 => ?_)
        · skip
          refine r_iconst O dX3_takeMember_53 ?_
          exact hE _ _ _ _ dX3_takeMember_54 (nar01 (by omega)) (by first | exact Or.inr ⟨by unfold okM; omega, rfl, rfl⟩ | exact Or.inl ⟨by unfold okM; omega, rfl, rfl⟩ | exact Or.inr ⟨by omega, rfl, rfl⟩ | exact Or.inl ⟨by omega, rfl, rfl⟩)
        · skip
          refine n_aload_n O dX3_takeMember_40 rfl ?_
          refine s_get_n O hN hj fl_X3_27 dX3_takeMember_41 ?_
          refine r_iconst O dX3_takeMember_44 ?_
          refine r_bipush O (by decide +kernel) dX3_takeMember_45 ?_
          refine r_callN3i O (C_X5_isOutside hI _ _ _ _ ⟨by omega, by omega⟩ ⟨by omega, by omega⟩ ⟨by omega, by omega⟩) q_X3_46 (by decide) (by decide) (Nat.le_of_ble_eq_true rfl) dX3_takeMember_47 (fun zz47 zu47 hz47 => ?_)
          obtain ⟨hz47, rfl⟩ := hz47
          have ho47 := outV_c hz47
          refine r_if_eq (tgt := 55) O ⟨by omega, by omega⟩ dX3_takeMember_50 (by decide) (fun hc50 => ?_) (fun hc50 => ?_)
          · skip
            refine n_aload_n O dX3_takeMember_55 rfl ?_
            refine s_arr_kd O hN hj fl_X3_9 dX3_takeMember_56 ?_
            refine n_aload_n O dX3_takeMember_59 rfl ?_
            refine s_get_n O hN hj fl_X3_27 dX3_takeMember_60 ?_
            refine n_iload_n O dX3_takeMember_63 rfl ?_
            refine s_st_kd O hN hj (by omega) (by omega) dX3_takeMember_64 ?_
            refine n_aload_n O dX3_takeMember_65 rfl ?_
            refine s_arr_sp O hN hj fl_X3_15 dX3_takeMember_66 ?_
            refine n_aload_n O dX3_takeMember_69 rfl ?_
            refine s_get_n O hN hj fl_X3_27 dX3_takeMember_70 ?_
            refine n_iload_n O dX3_takeMember_73 rfl ?_
            refine s_st_sp O hN hj (by omega) (by omega) dX3_takeMember_74 ?_
            refine n_aload_n O dX3_takeMember_75 rfl ?_
            refine s_arr_hu O hN hj fl_X3_18 dX3_takeMember_76 ?_
            refine n_aload_n O dX3_takeMember_79 rfl ?_
            refine s_get_n O hN hj fl_X3_27 dX3_takeMember_80 ?_
            refine n_iload_n O dX3_takeMember_83 rfl ?_
            refine s_st_hu O hN hj (by omega) (by omega) dX3_takeMember_84 ?_
            refine n_aload_n O dX3_takeMember_85 rfl ?_
            refine s_arr_be O hN hj fl_X3_21 dX3_takeMember_86 ?_
            refine n_aload_n O dX3_takeMember_89 rfl ?_
            refine s_get_n O hN hj fl_X3_27 dX3_takeMember_90 ?_
            refine n_iload O dX3_takeMember_93 rfl ?_
            refine s_st_be O hN hj (by omega) (by omega) dX3_takeMember_95 ?_
            refine n_aload_n O dX3_takeMember_96 rfl ?_
            refine s_arr_ea O hN hj fl_X3_24 dX3_takeMember_97 ?_
            refine n_aload_n O dX3_takeMember_100 rfl ?_
            refine s_get_n O hN hj fl_X3_27 dX3_takeMember_101 ?_
            refine r_iconst O dX3_takeMember_104 ?_
            refine s_st_ea O hN hj (by omega) (by omega) dX3_takeMember_105 ?_
            refine n_aload_n O dX3_takeMember_106 rfl ?_
            refine r_dup O rfl dX3_takeMember_107 ?_
            refine s_get_n O hN hj fl_X3_27 dX3_takeMember_108 ?_
            refine r_iconst O dX3_takeMember_111 ?_
            refine r_iadd O dX3_takeMember_112 ?_
            refine s_put_n O hN hj fl_X3_27 dX3_takeMember_113 ?_
            refine r_iconst O dX3_takeMember_116 ?_
            exact hE _ _ _ _ dX3_takeMember_117 (nar01 (by omega)) (by first | exact Or.inr ⟨by unfold okM; omega, rfl, rfl⟩ | exact Or.inl ⟨by unfold okM; omega, rfl, rfl⟩ | exact Or.inr ⟨by omega, rfl, rfl⟩ | exact Or.inl ⟨by omega, rfl, rfl⟩)
          · skip
            refine r_iconst O dX3_takeMember_53 ?_
            exact hE _ _ _ _ dX3_takeMember_54 (nar01 (by omega)) (by first | exact Or.inr ⟨by unfold okM; omega, rfl, rfl⟩ | exact Or.inl ⟨by unfold okM; omega, rfl, rfl⟩ | exact Or.inr ⟨by omega, rfl, rfl⟩ | exact Or.inl ⟨by omega, rfl, rfl⟩)
theorem D_X3_takeMember {K : zK} (hI : zInj K) (hN : kN K = 85) (c : CS) (j : Nat) (hj : j < 12) (v : SV) (hn : 0 ≤ qn v ∧ qn v ≤ 7) (k s h b : Int) (bk : zB k) (bs : zB s) (bh : zB h) (bb : zB b) : zCi K yX3_takeMember cX3_takeMember 5 (some .boolean) 1 [.ref (kad K (6 * j + 13)), .int (iI k), .int (iI s), .int (iI h), .int (iI b)] (layC K (wS c j v)) (fun z u => ((okM k s h b ∧ qn v ≤ 6) ∧ z = 1 ∧ u = layC K (wS c j (memV v k s h b))) ∨ (¬ (okM k s h b ∧ qn v ≤ 6) ∧ z = 0 ∧ u = layC K (wS c j v))) := by
  obtain ⟨n, am, he, sa, ro, fa, kd, sp, hu, be, ea⟩ := v
  exact C_X3_takeMember hI hN c j hj n am he sa ro fa kd sp hu be ea hn k s h b bk bs bh bb
set_option maxHeartbeats 4000000 in
theorem C_X3_takePot {K : zK} (hI : zInj K) (hN : kN K = 85) (c : CS) (j : Nat) (hj : j < 12) (n am he sa ro fa : Int) (kd sp hu be ea : Int → Int) (hn : 0 ≤ n ∧ n ≤ 7) (a h s : Int) (ba : zB a) (bh : zB h) (bs : zB s)  : zCi K yX3_takePot cX3_takePot 4 (some .boolean) 1 [.ref (kad K (6 * j + 13)), .int (iI a), .int (iI h), .int (iI s)] (layC K (wS c j (n, am, he, sa, ro, fa, kd, sp, hu, be, ea))) (fun z u => (((0 ≤ a ∧ a ≤ 99) ∧ (0 ≤ h ∧ h ≤ 9) ∧ (0 ≤ s ∧ s ≤ 9)) ∧ z = 1 ∧ u = layC K (wS c j (n, a, h, s, ro, fa, kd, sp, hu, be, ea))) ∨ (¬ ((0 ≤ a ∧ a ≤ 99) ∧ (0 ≤ h ∧ h ≤ 9) ∧ (0 ≤ s ∧ s ≤ 9)) ∧ z = 0 ∧ u = (layC K (wS c j (n, am, he, sa, ro, fa, kd, sp, hu, be, ea))))) := by
  obtain ⟨ba1, ba2⟩ := id ba
  obtain ⟨bh1, bh2⟩ := id bh
  obtain ⟨bs1, bs2⟩ := id bs
  refine zCi_in hI (by decide +kernel) (Nat.le_of_ble_eq_true rfl) (fun X O hE => ?_)
  refine n_iload_n O dX3_takePot_0 rfl ?_
  refine r_iconst O dX3_takePot_1 ?_
  refine r_bipush O (by decide +kernel) dX3_takePot_2 ?_
  refine r_callN3i O (C_X5_isOutside hI _ _ _ _ ⟨by omega, by omega⟩ ⟨by omega, by omega⟩ ⟨by omega, by omega⟩) q_X3_46 (by decide) (by decide) (Nat.le_of_ble_eq_true rfl) dX3_takePot_4 (fun zz4 zu4 hz4 => ?_)
  obtain ⟨hz4, rfl⟩ := hz4
  have ho4 := outV_c hz4
  refine r_if_ne (tgt := 30) O ⟨by omega, by omega⟩ dX3_takePot_7 (by decide) (fun hc7 => ?_) (fun hc7 => ?_)
  · skip
    refine r_iconst O dX3_takePot_30 ?_
    exact hE _ _ _ _ dX3_takePot_31 (nar01 (by omega)) (by first | exact Or.inr ⟨by unfold okM; omega, rfl, rfl⟩ | exact Or.inl ⟨by unfold okM; omega, rfl, rfl⟩ | exact Or.inr ⟨by omega, rfl, rfl⟩ | exact Or.inl ⟨by omega, rfl, rfl⟩)
  · skip
    refine n_iload_n O dX3_takePot_10 rfl ?_
    refine r_iconst O dX3_takePot_11 ?_
    refine r_bipush O (by decide +kernel) dX3_takePot_12 ?_
    refine r_callN3i O (C_X5_isOutside hI _ _ _ _ ⟨by omega, by omega⟩ ⟨by omega, by omega⟩ ⟨by omega, by omega⟩) q_X3_46 (by decide) (by decide) (Nat.le_of_ble_eq_true rfl) dX3_takePot_14 (fun zz14 zu14 hz14 => ?_)
    obtain ⟨hz14, rfl⟩ := hz14
    have ho14 := outV_c hz14
    refine r_if_ne (tgt := 30) O ⟨by omega, by omega⟩ dX3_takePot_17 (by decide) (fun hc17 => ?_) (fun hc17 => ?_)
    · skip
      refine r_iconst O dX3_takePot_30 ?_
      exact hE _ _ _ _ dX3_takePot_31 (nar01 (by omega)) (by first | exact Or.inr ⟨by unfold okM; omega, rfl, rfl⟩ | exact Or.inl ⟨by unfold okM; omega, rfl, rfl⟩ | exact Or.inr ⟨by omega, rfl, rfl⟩ | exact Or.inl ⟨by omega, rfl, rfl⟩)
    · skip
      refine n_iload_n O dX3_takePot_20 rfl ?_
      refine r_iconst O dX3_takePot_21 ?_
      refine r_bipush O (by decide +kernel) dX3_takePot_22 ?_
      refine r_callN3i O (C_X5_isOutside hI _ _ _ _ ⟨by omega, by omega⟩ ⟨by omega, by omega⟩ ⟨by omega, by omega⟩) q_X3_46 (by decide) (by decide) (Nat.le_of_ble_eq_true rfl) dX3_takePot_24 (fun zz24 zu24 hz24 => ?_)
      obtain ⟨hz24, rfl⟩ := hz24
      have ho24 := outV_c hz24
      refine r_if_eq (tgt := 32) O ⟨by omega, by omega⟩ dX3_takePot_27 (by decide) (fun hc27 => ?_) (fun hc27 => ?_)
      · skip
        refine n_aload_n O dX3_takePot_32 rfl ?_
        refine n_iload_n O dX3_takePot_33 rfl ?_
        refine s_put_am O hN hj fl_X3_31 dX3_takePot_34 ?_
        refine n_aload_n O dX3_takePot_37 rfl ?_
        refine n_iload_n O dX3_takePot_38 rfl ?_
        refine s_put_he O hN hj fl_X3_34 dX3_takePot_39 ?_
        refine n_aload_n O dX3_takePot_42 rfl ?_
        refine n_iload_n O dX3_takePot_43 rfl ?_
        refine s_put_sa O hN hj fl_X3_37 dX3_takePot_44 ?_
        refine r_iconst O dX3_takePot_47 ?_
        exact hE _ _ _ _ dX3_takePot_48 (nar01 (by omega)) (by first | exact Or.inr ⟨by unfold okM; omega, rfl, rfl⟩ | exact Or.inl ⟨by unfold okM; omega, rfl, rfl⟩ | exact Or.inr ⟨by omega, rfl, rfl⟩ | exact Or.inl ⟨by omega, rfl, rfl⟩)
      · skip
        refine r_iconst O dX3_takePot_30 ?_
        exact hE _ _ _ _ dX3_takePot_31 (nar01 (by omega)) (by first | exact Or.inr ⟨by unfold okM; omega, rfl, rfl⟩ | exact Or.inl ⟨by unfold okM; omega, rfl, rfl⟩ | exact Or.inr ⟨by omega, rfl, rfl⟩ | exact Or.inl ⟨by omega, rfl, rfl⟩)
theorem D_X3_takePot {K : zK} (hI : zInj K) (hN : kN K = 85) (c : CS) (j : Nat) (hj : j < 12) (v : SV) (hn : 0 ≤ qn v ∧ qn v ≤ 7) (a h s : Int) (ba : zB a) (bh : zB h) (bs : zB s) : zCi K yX3_takePot cX3_takePot 4 (some .boolean) 1 [.ref (kad K (6 * j + 13)), .int (iI a), .int (iI h), .int (iI s)] (layC K (wS c j v)) (fun z u => (((0 ≤ a ∧ a ≤ 99) ∧ (0 ≤ h ∧ h ≤ 9) ∧ (0 ≤ s ∧ s ≤ 9)) ∧ z = 1 ∧ u = layC K (wS c j (qn v, a, h, s, qro v, qfa v, qkd v, qsp v, qhu v, qbe v, qea v))) ∨ (¬ ((0 ≤ a ∧ a ≤ 99) ∧ (0 ≤ h ∧ h ≤ 9) ∧ (0 ≤ s ∧ s ≤ 9)) ∧ z = 0 ∧ u = layC K (wS c j v))) := by
  obtain ⟨n, am, he, sa, ro, fa, kd, sp, hu, be, ea⟩ := v
  exact C_X3_takePot hI hN c j hj n am he sa ro fa kd sp hu be ea hn a h s ba bh bs
set_option maxHeartbeats 4000000 in
theorem C_X3_takeRounds {K : zK} (hI : zInj K) (hN : kN K = 85) (c : CS) (j : Nat) (hj : j < 12) (n am he sa ro fa : Int) (kd sp hu be ea : Int → Int) (hn : 0 ≤ n ∧ n ≤ 7) (r : Int) (br : zB r)  : zCi K yX3_takeRounds cX3_takeRounds 2 (some .boolean) 1 [.ref (kad K (6 * j + 13)), .int (iI r)] (layC K (wS c j (n, am, he, sa, ro, fa, kd, sp, hu, be, ea))) (fun z u => ((1 ≤ r ∧ r ≤ 20) ∧ z = 1 ∧ u = layC K (wS c j (n, am, he, sa, r, fa, kd, sp, hu, be, ea))) ∨ (¬ (1 ≤ r ∧ r ≤ 20) ∧ z = 0 ∧ u = (layC K (wS c j (n, am, he, sa, ro, fa, kd, sp, hu, be, ea))))) := by
  obtain ⟨br1, br2⟩ := id br
  refine zCi_in hI (by decide +kernel) (Nat.le_of_ble_eq_true rfl) (fun X O hE => ?_)
  refine n_iload_n O dX3_takeRounds_0 rfl ?_
  refine r_iconst O dX3_takeRounds_1 ?_
  refine r_bipush O (by decide +kernel) dX3_takeRounds_2 ?_
  refine r_callN3i O (C_X5_isOutside hI _ _ _ _ ⟨by omega, by omega⟩ ⟨by omega, by omega⟩ ⟨by omega, by omega⟩) q_X3_46 (by decide) (by decide) (Nat.le_of_ble_eq_true rfl) dX3_takeRounds_4 (fun zz4 zu4 hz4 => ?_)
  obtain ⟨hz4, rfl⟩ := hz4
  have ho4 := outV_c hz4
  refine r_if_eq (tgt := 12) O ⟨by omega, by omega⟩ dX3_takeRounds_7 (by decide) (fun hc7 => ?_) (fun hc7 => ?_)
  · skip
    refine n_aload_n O dX3_takeRounds_12 rfl ?_
    refine n_iload_n O dX3_takeRounds_13 rfl ?_
    refine s_put_ro O hN hj fl_X3_40 dX3_takeRounds_14 ?_
    refine r_iconst O dX3_takeRounds_17 ?_
    exact hE _ _ _ _ dX3_takeRounds_18 (nar01 (by omega)) (by first | exact Or.inr ⟨by unfold okM; omega, rfl, rfl⟩ | exact Or.inl ⟨by unfold okM; omega, rfl, rfl⟩ | exact Or.inr ⟨by omega, rfl, rfl⟩ | exact Or.inl ⟨by omega, rfl, rfl⟩)
  · skip
    refine r_iconst O dX3_takeRounds_10 ?_
    exact hE _ _ _ _ dX3_takeRounds_11 (nar01 (by omega)) (by first | exact Or.inr ⟨by unfold okM; omega, rfl, rfl⟩ | exact Or.inl ⟨by unfold okM; omega, rfl, rfl⟩ | exact Or.inr ⟨by omega, rfl, rfl⟩ | exact Or.inl ⟨by omega, rfl, rfl⟩)
theorem D_X3_takeRounds {K : zK} (hI : zInj K) (hN : kN K = 85) (c : CS) (j : Nat) (hj : j < 12) (v : SV) (hn : 0 ≤ qn v ∧ qn v ≤ 7) (r : Int) (br : zB r) : zCi K yX3_takeRounds cX3_takeRounds 2 (some .boolean) 1 [.ref (kad K (6 * j + 13)), .int (iI r)] (layC K (wS c j v)) (fun z u => ((1 ≤ r ∧ r ≤ 20) ∧ z = 1 ∧ u = layC K (wS c j (qn v, qam v, qhe v, qsa v, r, qfa v, qkd v, qsp v, qhu v, qbe v, qea v))) ∨ (¬ (1 ≤ r ∧ r ≤ 20) ∧ z = 0 ∧ u = layC K (wS c j v))) := by
  obtain ⟨n, am, he, sa, ro, fa, kd, sp, hu, be, ea⟩ := v
  exact C_X3_takeRounds hI hN c j hj n am he sa ro fa kd sp hu be ea hn r br
set_option maxHeartbeats 4000000 in
theorem C_X3_takeFastHunger {K : zK} (hI : zInj K) (hN : kN K = 85) (c : CS) (j : Nat) (hj : j < 12) (n am he sa ro fa : Int) (kd sp hu be ea : Int → Int) (hn : 0 ≤ n ∧ n ≤ 7) (r : Int) (br : zB r)  : zCi K yX3_takeFastHunger cX3_takeFastHunger 2 (some .boolean) 1 [.ref (kad K (6 * j + 13)), .int (iI r)] (layC K (wS c j (n, am, he, sa, ro, fa, kd, sp, hu, be, ea))) (fun z u => ((1 ≤ r ∧ r ≤ 20) ∧ z = 1 ∧ u = layC K (wS c j (n, am, he, sa, ro, r, kd, sp, hu, be, ea))) ∨ (¬ (1 ≤ r ∧ r ≤ 20) ∧ z = 0 ∧ u = (layC K (wS c j (n, am, he, sa, ro, fa, kd, sp, hu, be, ea))))) := by
  obtain ⟨br1, br2⟩ := id br
  refine zCi_in hI (by decide +kernel) (Nat.le_of_ble_eq_true rfl) (fun X O hE => ?_)
  refine n_iload_n O dX3_takeFastHunger_0 rfl ?_
  refine r_iconst O dX3_takeFastHunger_1 ?_
  refine r_bipush O (by decide +kernel) dX3_takeFastHunger_2 ?_
  refine r_callN3i O (C_X5_isOutside hI _ _ _ _ ⟨by omega, by omega⟩ ⟨by omega, by omega⟩ ⟨by omega, by omega⟩) q_X3_46 (by decide) (by decide) (Nat.le_of_ble_eq_true rfl) dX3_takeFastHunger_4 (fun zz4 zu4 hz4 => ?_)
  obtain ⟨hz4, rfl⟩ := hz4
  have ho4 := outV_c hz4
  refine r_if_eq (tgt := 12) O ⟨by omega, by omega⟩ dX3_takeFastHunger_7 (by decide) (fun hc7 => ?_) (fun hc7 => ?_)
  · skip
    refine n_aload_n O dX3_takeFastHunger_12 rfl ?_
    refine n_iload_n O dX3_takeFastHunger_13 rfl ?_
    refine s_put_fa O hN hj fl_X3_43 dX3_takeFastHunger_14 ?_
    refine r_iconst O dX3_takeFastHunger_17 ?_
    exact hE _ _ _ _ dX3_takeFastHunger_18 (nar01 (by omega)) (by first | exact Or.inr ⟨by unfold okM; omega, rfl, rfl⟩ | exact Or.inl ⟨by unfold okM; omega, rfl, rfl⟩ | exact Or.inr ⟨by omega, rfl, rfl⟩ | exact Or.inl ⟨by omega, rfl, rfl⟩)
  · skip
    refine r_iconst O dX3_takeFastHunger_10 ?_
    exact hE _ _ _ _ dX3_takeFastHunger_11 (nar01 (by omega)) (by first | exact Or.inr ⟨by unfold okM; omega, rfl, rfl⟩ | exact Or.inl ⟨by unfold okM; omega, rfl, rfl⟩ | exact Or.inr ⟨by omega, rfl, rfl⟩ | exact Or.inl ⟨by omega, rfl, rfl⟩)
theorem D_X3_takeFastHunger {K : zK} (hI : zInj K) (hN : kN K = 85) (c : CS) (j : Nat) (hj : j < 12) (v : SV) (hn : 0 ≤ qn v ∧ qn v ≤ 7) (r : Int) (br : zB r) : zCi K yX3_takeFastHunger cX3_takeFastHunger 2 (some .boolean) 1 [.ref (kad K (6 * j + 13)), .int (iI r)] (layC K (wS c j v)) (fun z u => ((1 ≤ r ∧ r ≤ 20) ∧ z = 1 ∧ u = layC K (wS c j (qn v, qam v, qhe v, qsa v, qro v, r, qkd v, qsp v, qhu v, qbe v, qea v))) ∨ (¬ (1 ≤ r ∧ r ≤ 20) ∧ z = 0 ∧ u = layC K (wS c j v))) := by
  obtain ⟨n, am, he, sa, ro, fa, kd, sp, hu, be, ea⟩ := v
  exact C_X3_takeFastHunger hI hN c j hj n am he sa ro fa kd sp hu be ea hn r br
theorem E_X3_share {K : zK} (hI : zInj K) (hN : kN K = 85) (c : CS) (j : Nat) (hj : j < 12) (hv : okV (c.1 j)) (i : Int) (h0 : 0 ≤ i) (h1 : i < qn (c.1 j)) : zCi K yX3_share cX3_share 2 (some .int) 2 [.ref (kad K (6 * j + 13)), .int (iI i)] (layC K c) (fun z u => z = shareV (c.1 j) i ∧ u = layC K c) := by
  have h := D_X3_share hI hN c j hj (c.1 j) hv i h0 h1
  rw [wS_id] at h
  exact h
theorem E_X3_waitOnce {K : zK} (hI : zInj K) (hN : kN K = 85) (c : CS) (j : Nat) (hj : j < 12) (hv : okV (c.1 j))  : zCv K yX3_waitOnce cX3_waitOnce 1 1 [.ref (kad K (6 * j + 13))] (layC K c) (fun u => u = layC K (wS c j (waitV (c.1 j)))) := by
  have h := D_X3_waitOnce hI hN c j hj (c.1 j) hv
  rw [wS_id] at h
  exact h
theorem E_X3_putSalt {K : zK} (hI : zInj K) (hN : kN K = 85) (c : CS) (j : Nat) (hj : j < 12) (hv : okV (c.1 j))  : zCv K yX3_putSalt cX3_putSalt 1 1 [.ref (kad K (6 * j + 13))] (layC K c) (fun u => u = layC K (wS c j (saltV (c.1 j)))) := by
  have h := D_X3_putSalt hI hN c j hj (c.1 j) hv
  rw [wS_id] at h
  exact h
theorem E_X3_cookTo {K : zK} (hI : zInj K) (hN : kN K = 85) (c : CS) (j : Nat) (hj : j < 12) (a : Int) : zCv K yX3_cookTo cX3_cookTo 2 0 [.ref (kad K (6 * j + 13)), .int (iI a)] (layC K c) (fun u => u = layC K (wS c j (cookV (c.1 j) a))) := by
  have h := D_X3_cookTo hI hN c j hj (c.1 j) a
  rw [wS_id] at h
  exact h
theorem E_X3_clear {K : zK} (hI : zInj K) (hN : kN K = 85) (c : CS) (j : Nat) (hj : j < 12)  : zCv K yX3_clear cX3_clear 1 0 [.ref (kad K (6 * j + 13))] (layC K c) (fun u => u = layC K (wS c j (clearV (c.1 j)))) := by
  have h := D_X3_clear hI hN c j hj (c.1 j) 
  rw [wS_id] at h
  exact h
theorem E_X3_exchangeSpoons {K : zK} (hI : zInj K) (hN : kN K = 85) (c : CS) (j : Nat) (hj : j < 12) (hv : okV (c.1 j)) (i k : Int) (h0 : 0 ≤ i) (h1 : i < qn (c.1 j)) (h2 : 0 ≤ k) (h3 : k < qn (c.1 j)) : zCv K yX3_exchangeSpoons cX3_exchangeSpoons 5 0 [.ref (kad K (6 * j + 13)), .int (iI i), .int (iI k)] (layC K c) (fun u => u = layC K (wS c j (exchV (c.1 j) i k))) := by
  have h := D_X3_exchangeSpoons hI hN c j hj (c.1 j) hv i k h0 h1 h2 h3
  rw [wS_id] at h
  exact h
theorem E_X3_takeOver {K : zK} (hI : zInj K) (hN : kN K = 85) (c : CS) (j : Nat) (hj : j < 12) (i : Nat) (hi : i < 12) (hne : i ≠ j) : zCv K yX3_takeOver cX3_takeOver 2 1 [.ref (kad K (6 * j + 13)), .ref (kad K (6 * i + 13))] (layC K c) (fun u => u = layC K (wS c j (cpV (c.1 i) (c.1 j)))) := by
  have h := D_X3_takeOver hI hN c j hj (c.1 j) i hi hne
  rw [wS_id] at h
  exact h
theorem E_X3_eatRound {K : zK} (hI : zInj K) (hN : kN K = 85) (c : CS) (j : Nat) (hj : j < 12) (hv : okV (c.1 j))  : zCi K yX3_eatRound cX3_eatRound 4 (some .int) 3 [.ref (kad K (6 * j + 13))] (layC K c) (fun z u => z = (roundV (c.1 j)).2 ∧ u = layC K (wS c j (roundV (c.1 j)).1)) := by
  have h := D_X3_eatRound hI hN c j hj (c.1 j) hv
  rw [wS_id] at h
  exact h
theorem E_X3_eatRounds {K : zK} (hI : zInj K) (hN : kN K = 85) (c : CS) (j : Nat) (hj : j < 12) (hv : okV (c.1 j)) (m : Int) (hm0 : 0 ≤ m) (hm1 : m ≤ 20) : zCi K yX3_eatRounds cX3_eatRounds 5 (some .int) 4 [.ref (kad K (6 * j + 13)), .int (iI m)] (layC K c) (fun z u => z = (roundsV (c.1 j) m.toNat).2 ∧ u = layC K (wS c j (roundsV (c.1 j) m.toNat).1)) := by
  have h := D_X3_eatRounds hI hN c j hj (c.1 j) hv m hm0 hm1
  rw [wS_id] at h
  exact h
theorem E_X3_roundsUntilEmpty {K : zK} (hI : zInj K) (hN : kN K = 85) (c : CS) (j : Nat) (hj : j < 12) (hv : okV (c.1 j))  : zCi K yX3_roundsUntilEmpty cX3_roundsUntilEmpty 2 (some .int) 4 [.ref (kad K (6 * j + 13))] (layC K c) (fun z u => untilP (c.1 j) z ∧ ∃ w : SV, u = layC K (wS c j w)) := by
  have h := D_X3_roundsUntilEmpty hI hN c j hj (c.1 j) hv
  rw [wS_id] at h
  exact h
theorem E_X3_reach {K : zK} (hI : zInj K) (hN : kN K = 85) (c : CS) (j : Nat) (hj : j < 12) (hv : okV (c.1 j)) (i : Int) (h0 : 0 ≤ i) (h1 : i < qn (c.1 j)) : zCi K yX3_reach cX3_reach 4 (some .int) 2 [.ref (kad K (6 * j + 13)), .int (iI i)] (layC K c) (fun z u => z = reachV (c.1 j) i ∧ u = layC K c) := by
  have h := D_X3_reach hI hN c j hj (c.1 j) hv i h0 h1
  rw [wS_id] at h
  exact h
theorem E_X3_reachOfAll {K : zK} (hI : zInj K) (hN : kN K = 85) (c : CS) (j : Nat) (hj : j < 12) (hv : okV (c.1 j))  : zCi K yX3_reachOfAll cX3_reachOfAll 3 (some .int) 3 [.ref (kad K (6 * j + 13))] (layC K c) (fun z u => z = reachA (c.1 j) (qn (c.1 j)).toNat ∧ u = layC K c) := by
  have h := D_X3_reachOfAll hI hN c j hj (c.1 j) hv
  rw [wS_id] at h
  exact h
theorem E_X3_wouldPass {K : zK} (hI : zInj K) (hN : kN K = 85) (c : CS) (j : Nat) (hj : j < 12) (hv : okV (c.1 j))  : zCi K yX3_wouldPass cX3_wouldPass 1 (some .boolean) 4 [.ref (kad K (6 * j + 13))] (layC K c) (fun z u => z = passI (c.1 j) ∧ u = layC K c) := by
  have h := D_X3_wouldPass hI hN c j hj (c.1 j) hv
  rw [wS_id] at h
  exact h
theorem E_X3_hungerOfAll {K : zK} (hI : zInj K) (hN : kN K = 85) (c : CS) (j : Nat) (hj : j < 12) (hv : okV (c.1 j))  : zCi K yX3_hungerOfAll cX3_hungerOfAll 1 (some .int) 1 [.ref (kad K (6 * j + 13))] (layC K c) (fun z u => z = sumI (qhu (c.1 j)) (qn (c.1 j)).toNat ∧ u = layC K c) := by
  have h := D_X3_hungerOfAll hI hN c j hj (c.1 j) hv
  rw [wS_id] at h
  exact h
theorem E_X3_eatenInAll {K : zK} (hI : zInj K) (hN : kN K = 85) (c : CS) (j : Nat) (hj : j < 12) (hv : okV (c.1 j))  : zCi K yX3_eatenInAll cX3_eatenInAll 1 (some .int) 1 [.ref (kad K (6 * j + 13))] (layC K c) (fun z u => z = sumI (qea (c.1 j)) (qn (c.1 j)).toNat ∧ u = layC K c) := by
  have h := D_X3_eatenInAll hI hN c j hj (c.1 j) hv
  rw [wS_id] at h
  exact h
theorem E_X3_fastDay {K : zK} (hI : zInj K) (hN : kN K = 85) (c : CS) (j : Nat) (hj : j < 12) (hv : okV (c.1 j))  : zCv K yX3_fastDay cX3_fastDay 2 1 [.ref (kad K (6 * j + 13))] (layC K c) (fun u => u = layC K (wS c j (fastV (c.1 j)))) := by
  have h := D_X3_fastDay hI hN c j hj (c.1 j) hv
  rw [wS_id] at h
  exact h
theorem E_X3_liveBy {K : zK} (hI : zInj K) (hN : kN K = 85) (c : CS) (j : Nat) (hj : j < 12) (hv : okV (c.1 j)) (d : Int) (hd0 : 0 ≤ d) (hd1 : d ≤ 8190) : zCv K yX3_liveBy cX3_liveBy 3 4 [.ref (kad K (6 * j + 13)), .int (iI d)] (layC K c) (fun u => u = layC K (wS c j (liveV (c.1 j) d))) := by
  have h := D_X3_liveBy hI hN c j hj (c.1 j) hv d hd0 hd1
  rw [wS_id] at h
  exact h
theorem E_X3_takeMember {K : zK} (hI : zInj K) (hN : kN K = 85) (c : CS) (j : Nat) (hj : j < 12) (hn : 0 ≤ qn (c.1 j) ∧ qn (c.1 j) ≤ 7) (k s h b : Int) (bk : zB k) (bs : zB s) (bh : zB h) (bb : zB b) : zCi K yX3_takeMember cX3_takeMember 5 (some .boolean) 1 [.ref (kad K (6 * j + 13)), .int (iI k), .int (iI s), .int (iI h), .int (iI b)] (layC K c) (fun z u => ((okM k s h b ∧ qn (c.1 j) ≤ 6) ∧ z = 1 ∧ u = layC K (wS c j (memV (c.1 j) k s h b))) ∨ (¬ (okM k s h b ∧ qn (c.1 j) ≤ 6) ∧ z = 0 ∧ u = layC K c)) := by
  have h := D_X3_takeMember hI hN c j hj (c.1 j) hn k s h b bk bs bh bb
  rw [wS_id] at h
  exact h
theorem E_X3_takePot {K : zK} (hI : zInj K) (hN : kN K = 85) (c : CS) (j : Nat) (hj : j < 12) (hn : 0 ≤ qn (c.1 j) ∧ qn (c.1 j) ≤ 7) (a h s : Int) (ba : zB a) (bh : zB h) (bs : zB s) : zCi K yX3_takePot cX3_takePot 4 (some .boolean) 1 [.ref (kad K (6 * j + 13)), .int (iI a), .int (iI h), .int (iI s)] (layC K c) (fun z u => (((0 ≤ a ∧ a ≤ 99) ∧ (0 ≤ h ∧ h ≤ 9) ∧ (0 ≤ s ∧ s ≤ 9)) ∧ z = 1 ∧ u = layC K (wS c j (qn (c.1 j), a, h, s, qro (c.1 j), qfa (c.1 j), qkd (c.1 j), qsp (c.1 j), qhu (c.1 j), qbe (c.1 j), qea (c.1 j)))) ∨ (¬ ((0 ≤ a ∧ a ≤ 99) ∧ (0 ≤ h ∧ h ≤ 9) ∧ (0 ≤ s ∧ s ≤ 9)) ∧ z = 0 ∧ u = layC K c)) := by
  have h := D_X3_takePot hI hN c j hj (c.1 j) hn a h s ba bh bs
  rw [wS_id] at h
  exact h
theorem E_X3_takeRounds {K : zK} (hI : zInj K) (hN : kN K = 85) (c : CS) (j : Nat) (hj : j < 12) (hn : 0 ≤ qn (c.1 j) ∧ qn (c.1 j) ≤ 7) (r : Int) (br : zB r) : zCi K yX3_takeRounds cX3_takeRounds 2 (some .boolean) 1 [.ref (kad K (6 * j + 13)), .int (iI r)] (layC K c) (fun z u => ((1 ≤ r ∧ r ≤ 20) ∧ z = 1 ∧ u = layC K (wS c j (qn (c.1 j), qam (c.1 j), qhe (c.1 j), qsa (c.1 j), r, qfa (c.1 j), qkd (c.1 j), qsp (c.1 j), qhu (c.1 j), qbe (c.1 j), qea (c.1 j)))) ∨ (¬ (1 ≤ r ∧ r ≤ 20) ∧ z = 0 ∧ u = layC K c)) := by
  have h := D_X3_takeRounds hI hN c j hj (c.1 j) hn r br
  rw [wS_id] at h
  exact h
theorem E_X3_takeFastHunger {K : zK} (hI : zInj K) (hN : kN K = 85) (c : CS) (j : Nat) (hj : j < 12) (hn : 0 ≤ qn (c.1 j) ∧ qn (c.1 j) ≤ 7) (r : Int) (br : zB r) : zCi K yX3_takeFastHunger cX3_takeFastHunger 2 (some .boolean) 1 [.ref (kad K (6 * j + 13)), .int (iI r)] (layC K c) (fun z u => ((1 ≤ r ∧ r ≤ 20) ∧ z = 1 ∧ u = layC K (wS c j (qn (c.1 j), qam (c.1 j), qhe (c.1 j), qsa (c.1 j), qro (c.1 j), r, qkd (c.1 j), qsp (c.1 j), qhu (c.1 j), qbe (c.1 j), qea (c.1 j)))) ∨ (¬ (1 ≤ r ∧ r ≤ 20) ∧ z = 0 ∧ u = layC K c)) := by
  have h := D_X3_takeFastHunger hI hN c j hj (c.1 j) hn r br
  rw [wS_id] at h
  exact h
end
section
/-- member i in the set s -/
def bitI (s i : Nat) : Nat := s >>> i % 2
def popN (s : Nat) : Nat := bitI s 0 + bitI s 1 + bitI s 2 + bitI s 3 + bitI s 4 + bitI s 5 + bitI s 6
theorem bitI_01 (s i : Nat) : bitI s i = 0 ∨ bitI s i = 1 := by unfold bitI; omega
theorem popN_b (s : Nat) : popN s ≤ 7 := by
  have := bitI_01 s 0; have := bitI_01 s 1; have := bitI_01 s 2; have := bitI_01 s 3; have := bitI_01 s 4; have := bitI_01 s 5; have := bitI_01 s 6
  unfold popN
  omega
theorem bit_d1 : ∀ s, s < 128 → ∀ i, i < 7 → nI s >>> (nI i &&& 31) = nI (s >>> i) := by decide +kernel
theorem bit_d2 : ∀ s, s < 128 → nI s &&& 1 = nI (s % 2) := by decide +kernel
theorem bit_d3 : ∀ i, i < 8 → (1 : Int32) <<< (nI i &&& 31) = nI (2 ^ i) := by decide +kernel
theorem bit_d4 : ∀ s, s < 128 → ∀ i, i < 7 → nI s ||| nI (2 ^ i) = nI (s ||| 2 ^ i) := by decide +kernel
theorem bit_d5 : ∀ s, s < 128 → ∀ i, i < 7 → s ||| 2 ^ i < 128 := by decide +kernel
theorem bit_d6 : ∀ s, s < 128 → ∀ i, i < 7 → s >>> i < 128 := by decide +kernel
theorem iI_n (n : Nat) : iI (n : Int) = nI n := (iI_nat n).symm
theorem bit_shr {s i : Nat} (hs : s < 128) (hi : i < 7) : iI (s : Int) >>> (iI (i : Int) &&& 31) = iI ((s >>> i : Nat) : Int) := by
  rw [iI_n, iI_n, iI_n]; exact bit_d1 s hs i hi
theorem bit_and1 {s : Nat} (hs : s < 128) : iI (s : Int) &&& iI 1 = iI ((s % 2 : Nat) : Int) := by
  rw [iI_n, iI_n]; exact bit_d2 s hs
theorem bit_shl {i : Nat} (hi : i < 8) : iI 1 <<< (iI (i : Int) &&& 31) = iI ((2 ^ i : Nat) : Int) := by
  rw [iI_n, iI_n]; exact bit_d3 i hi
theorem bit_or {s i : Nat} (hs : s < 128) (hi : i < 7) : iI (s : Int) ||| iI ((2 ^ i : Nat) : Int) = iI ((s ||| 2 ^ i : Nat) : Int) := by
  rw [iI_n, iI_n, iI_n]; exact bit_d4 s hs i hi
theorem pow_b : ∀ i, i < 8 → 1 ≤ 2 ^ i ∧ 2 ^ i ≤ 128 := by decide
def popE (x : Int32) : Int32 :=
  let a := x - ((x.toUInt32 >>> ((1 : Int32).toUInt32 &&& Int32.toUInt32 31)).toInt32 &&& 1431655765)
  let b := (a &&& 858993459) + ((a.toUInt32 >>> ((2 : Int32).toUInt32 &&& Int32.toUInt32 31)).toInt32 &&& 858993459)
  let d := (b + (b.toUInt32 >>> ((4 : Int32).toUInt32 &&& Int32.toUInt32 31)).toInt32) &&& 252645135
  let e := d + (d.toUInt32 >>> ((8 : Int32).toUInt32 &&& Int32.toUInt32 31)).toInt32
  let g := e + (e.toUInt32 >>> ((16 : Int32).toUInt32 &&& Int32.toUInt32 31)).toInt32
  g &&& 63
theorem popE_d : ∀ s, s < 128 → popE (nI s) = nI (popN s) := by decide +kernel
theorem popE_ok {s : Nat} (hs : s < 128) : popE (iI (s : Int)) = iI ((popN s : Nat) : Int) := by rw [iI_n, iI_n]; exact popE_d s hs
/-- the sum of g over the members below k of the set s -/
def setSum (g : Int → Int) (s : Nat) : Nat → Int
  | 0 => 0
  | k + 1 => if bitI s k = 1 then setSum g s k + g (k : Int) else setSum g s k
def letsI (g : Int → Int) (n : Nat) (a : Int) (s : Nat) : Int := if a ≤ setSum g s n then 1 else 0
theorem letsI_01 (g : Int → Int) (n : Nat) (a : Int) (s : Nat) : letsI g n a s = 0 ∨ letsI g n a s = 1 := by unfold letsI; split <;> simp
theorem setSum_b {g : Int → Int} {n : Nat} (h : ∀ i : Nat, i < n → 0 ≤ g (i : Int) ∧ g (i : Int) ≤ 60) (s : Nat) : ∀ k, k ≤ n → 0 ≤ setSum g s k ∧ setSum g s k ≤ 60 * k := by
  intro k
  induction k with
  | zero => intro _; exact ⟨Int.le_refl _, by unfold setSum; omega⟩
  | succ k ih =>
    intro hk
    have h1 := ih (by omega)
    have h2 := h k (by omega)
    unfold setSum
    split <;> omega
/-- of the sets below k the first of fewest that L lets pass, or -4 -/
def fewN (L : Nat → Int) : Nat → Int
  | 0 => -4
  | k + 1 => if L k = 1 ∧ (fewN L k = -4 ∨ popN k < popN (fewN L k).toNat) then (k : Int) else fewN L k
theorem fewN_b (L : Nat → Int) (k : Nat) : fewN L k = -4 ∨ (0 ≤ fewN L k ∧ fewN L k < (k : Int)) := by
  induction k with
  | zero => exact Or.inl rfl
  | succ k ih => unfold fewN; split <;> omega
def facN : Nat → Int
  | 0 => 1
  | k + 1 => facN k * ((k : Int) + 1)
theorem facN_b : ∀ a, a < 8 → ∀ b, b < 8 → a + b < 7 → 1 ≤ facN a * facN b ∧ facN a * facN b ≤ 720 := by decide +kernel
theorem facN_c : ∀ a, a < 8 → 1 ≤ facN a ∧ facN a ≤ 5040 := by decide +kernel
/-- in how many orders i is the one by whose joining it is passed, over the sets below k -/
def decN (L : Nat → Int) (n i : Nat) : Nat → Int
  | 0 => 0
  | k + 1 => if bitI k i = 0 ∧ L k = 0 ∧ L (k ||| 2 ^ i) = 1 then decN L n i k + facN (popN k) * facN (n - 1 - popN k) else decN L n i k
/-- x of ten for each who is in the set, ten less x for each who is not -/
def casN (x : Int) (s : Nat) : Nat → Int
  | 0 => 1
  | k + 1 => casN x s k * (if bitI s k = 1 then x else 10 - x)
def likN (L : Nat → Int) (x : Int) (n : Nat) : Nat → Int
  | 0 => 0
  | k + 1 => if L k = 1 then likN L x n k + casN x k n else likN L x n k
def tenN : Nat → Int
  | 0 => 1
  | k + 1 => tenN k * 10
/-- a set below 2 to the n, with i not in it: fewer than n members -/
theorem pop_lt : ∀ n, n < 8 → ∀ s, s < 2 ^ n → popN s ≤ n ∧ ∀ i, i < n → bitI s i = 0 → popN s ≤ n - 1 := by decide +kernel
theorem facN_e {m q : Nat} (h1 : 1 ≤ q) (h : q ≤ m ∨ q = 1) (hc : (m : Int) < (q : Int) + 1) : facN m = facN q := by
  rcases h with h | h
  · have e2 : q = m := by omega
    rw [e2]
  · have e3 : m = 0 ∨ m = 1 := by omega
    rcases e3 with e3 | e3 <;> subst e3 <;> subst h <;> rfl
end
section
set_option maxHeartbeats 4000000 in
theorem C_J6_bitCount_0f7a4 {K : zK} (hI : zInj K) (ct : zE) (s : Nat) (hs : s < 128) : zCi K yJ6_bitCount_0f7a4 cJ6_bitCount_0f7a4 1 (some .int) 0 [.int (iI (s : Int))] ct (fun z u => z = ((popN s : Nat) : Int) ∧ u = ct) := by
  refine zCi_in hI (by decide +kernel) (Nat.le_of_ble_eq_true rfl) (fun X O hE => ?_)
  refine n_iload_n O dJ6_bitCount_0f7a4_0 rfl ?_
  refine n_iload_n O dJ6_bitCount_0f7a4_1 rfl ?_
  refine r_iconst O dJ6_bitCount_0f7a4_2 ?_
  refine w_iushr O dJ6_bitCount_0f7a4_3 ?_
  refine r_ldcw O kc_J6_265 dJ6_bitCount_0f7a4_4 ?_
  refine w_iand O dJ6_bitCount_0f7a4_7 ?_
  refine w_isub O dJ6_bitCount_0f7a4_8 ?_
  refine n_istore_n O dJ6_bitCount_0f7a4_9 (by decide) rfl ?_
  refine n_iload_n O dJ6_bitCount_0f7a4_10 rfl ?_
  refine r_ldcw O kc_J6_266 dJ6_bitCount_0f7a4_11 ?_
  refine w_iand O dJ6_bitCount_0f7a4_14 ?_
  refine n_iload_n O dJ6_bitCount_0f7a4_15 rfl ?_
  refine r_iconst O dJ6_bitCount_0f7a4_16 ?_
  refine w_iushr O dJ6_bitCount_0f7a4_17 ?_
  refine r_ldcw O kc_J6_266 dJ6_bitCount_0f7a4_18 ?_
  refine w_iand O dJ6_bitCount_0f7a4_21 ?_
  refine w_iadd O dJ6_bitCount_0f7a4_22 ?_
  refine n_istore_n O dJ6_bitCount_0f7a4_23 (by decide) rfl ?_
  refine n_iload_n O dJ6_bitCount_0f7a4_24 rfl ?_
  refine n_iload_n O dJ6_bitCount_0f7a4_25 rfl ?_
  refine r_iconst O dJ6_bitCount_0f7a4_26 ?_
  refine w_iushr O dJ6_bitCount_0f7a4_27 ?_
  refine w_iadd O dJ6_bitCount_0f7a4_28 ?_
  refine r_ldcw O kc_J6_267 dJ6_bitCount_0f7a4_29 ?_
  refine w_iand O dJ6_bitCount_0f7a4_32 ?_
  refine n_istore_n O dJ6_bitCount_0f7a4_33 (by decide) rfl ?_
  refine n_iload_n O dJ6_bitCount_0f7a4_34 rfl ?_
  refine n_iload_n O dJ6_bitCount_0f7a4_35 rfl ?_
  refine r_bipush O (by decide +kernel) dJ6_bitCount_0f7a4_36 ?_
  refine w_iushr O dJ6_bitCount_0f7a4_38 ?_
  refine w_iadd O dJ6_bitCount_0f7a4_39 ?_
  refine n_istore_n O dJ6_bitCount_0f7a4_40 (by decide) rfl ?_
  refine n_iload_n O dJ6_bitCount_0f7a4_41 rfl ?_
  refine n_iload_n O dJ6_bitCount_0f7a4_42 rfl ?_
  refine r_bipush O (by decide +kernel) dJ6_bitCount_0f7a4_43 ?_
  refine w_iushr O dJ6_bitCount_0f7a4_45 ?_
  refine w_iadd O dJ6_bitCount_0f7a4_46 ?_
  refine n_istore_n O dJ6_bitCount_0f7a4_47 (by decide) rfl ?_
  refine n_iload_n O dJ6_bitCount_0f7a4_48 rfl ?_
  refine r_bipush O (by decide +kernel) dJ6_bitCount_0f7a4_49 ?_
  refine w_iand O dJ6_bitCount_0f7a4_51 ?_
  refine G_st (st' := [.int (iI ((popN s : Nat) : Int))]) ?_ (hE _ _ _ _ dJ6_bitCount_0f7a4_52 rfl ⟨rfl, rfl⟩)
  rw [← popE_ok hs]
  rfl
set_option maxHeartbeats 4000000 in
theorem C_X1_isIn {K : zK} (hI : zInj K) (ct : zE) (s i : Nat) (hs : s < 128) (hi : i < 7) : zCi K yX1_isIn cX1_isIn 2 (some .boolean) 0 [.int (iI (s : Int)), .int (iI (i : Int))] ct (fun z u => z = ((bitI s i : Nat) : Int) ∧ u = ct) := by
  have h6 := bit_d6 s hs i hi
  have hb := bitI_01 s i
  have he : (s >>> i % 2 : Nat) = bitI s i := rfl
  refine zCi_in hI (by decide +kernel) (Nat.le_of_ble_eq_true rfl) (fun X O hE => ?_)
  refine n_iload_n O dX1_isIn_0 rfl ?_
  refine n_iload_n O dX1_isIn_1 rfl ?_
  refine r_ishr O (bit_shr hs hi) dX1_isIn_2 ?_
  refine r_iconst O dX1_isIn_3 ?_
  refine r_iand O (bit_and1 h6) dX1_isIn_4 ?_
  refine r_iconst O dX1_isIn_5 ?_
  refine r_icmp_ne (tgt := 13) O ⟨by omega, by omega⟩ ⟨by omega, by omega⟩ dX1_isIn_6 (by decide) (fun hc6 => ?_) (fun hc6 => ?_)
  · skip
    refine r_iconst O dX1_isIn_13 ?_
    exact hE _ _ _ _ dX1_isIn_14 (nar01 (by omega)) ⟨by omega, rfl⟩
  · skip
    refine r_iconst O dX1_isIn_9 ?_
    refine r_goto (tgt := 14) O dX1_isIn_10 (by decide) ?_
    exact hE _ _ _ _ dX1_isIn_14 (nar01 (by omega)) ⟨by omega, rfl⟩
set_option maxHeartbeats 4000000 in
theorem C_X1_factorial {K : zK} (hI : zInj K) (ct : zE) (m : Nat) (hm : m < 8) : zCi K yX1_factorial cX1_factorial 3 (some .int) 0 [.int (iI (m : Int))] ct (fun z u => z = facN m ∧ u = ct) := by
  refine zCi_in hI (by decide +kernel) (Nat.le_of_ble_eq_true rfl) (fun X O hE => ?_)
  refine r_iconst O dX1_factorial_0 ?_
  refine n_istore_n O dX1_factorial_1 (by decide) rfl ?_
  refine r_iconst O dX1_factorial_2 ?_
  refine n_istore_n O dX1_factorial_3 (by decide) rfl ?_
  have L4 : ∀ (zk : Nat) (q : Nat), (1 ≤ q ∧ (q ≤ m ∨ q = 1)) → 8 - q = zk → G K X 3 4 [(0, .int (iI (m : Int))), (1, .int (iI (facN q))), (2, .int (iI ((q : Int) + 1)))] [] ct := by
    intro zk
    induction zk using Nat.strongRecOn with
    | ind zk ih4 =>
      intro q hinv hk
      obtain ⟨hq1, hq2⟩ := hinv
      refine n_iload_n O dX1_factorial_4 rfl ?_
      refine n_iload_n O dX1_factorial_5 rfl ?_
      refine r_icmp_gt (tgt := 19) O ⟨by omega, by omega⟩ ⟨by omega, by omega⟩ dX1_factorial_6 (by decide) (fun hc6 => ?_) (fun hc6 => ?_)
      · skip
        refine n_iload_n O dX1_factorial_19 rfl ?_
        exact hE _ _ _ _ dX1_factorial_20 rfl ⟨(facN_e hq1 hq2 (by omega)).symm, rfl⟩
      · skip
        refine n_iload_n O dX1_factorial_9 rfl ?_
        refine n_iload_n O dX1_factorial_10 rfl ?_
        refine r_imul O dX1_factorial_11 ?_
        refine n_istore_n O dX1_factorial_12 (by decide) rfl ?_
        refine n_iinc O dX1_factorial_13 (by decide) rfl rfl ?_
        refine r_goto (tgt := 4) O dX1_factorial_16 (by decide) ?_
        exact G_chk (ih4 _ (by omega) (q + 1) (by omega) rfl) (zsc rfl (zsc rfl (zsc rfl zsn)))
  exact G_chk (L4 _ 1 (by omega) rfl) (zsc rfl (zsc rfl (zsc rfl zsn)))
set_option maxHeartbeats 4000000 in
theorem C_X1_howMany {K : zK} (hI : zInj K) (hN : kN K = 85) (c : CS) (rc : Int → Int) (aa : Int) (n : Nat) (hn : n ≤ 7)  : zCi K yX1_howMany cX1_howMany 1 (some .int) 0 [.ref (kad K 4)] (layC K (wE c (rc, (n : Int), aa))) (fun z u => z = ((2 ^ n : Nat) : Int) ∧ u = (layC K (wE c (rc, (n : Int), aa)))) := by
  refine zCi_in hI (by decide +kernel) (Nat.le_of_ble_eq_true rfl) (fun X O hE => ?_)
  refine r_iconst O dX1_howMany_0 ?_
  refine n_aload_n O dX1_howMany_1 rfl ?_
  refine E_get_mm O hN fl_X1_21 dX1_howMany_2 ?_
  refine r_ishl O (bit_shl (by omega)) dX1_howMany_5 ?_
  exact hE _ _ _ _ dX1_howMany_6 rfl ⟨rfl, rfl⟩
set_option maxHeartbeats 4000000 in
theorem C_X1_letsPass {K : zK} (hI : zInj K) (hN : kN K = 85) (c : CS) (rc : Int → Int) (aa : Int) (n : Nat) (hn : n ≤ 7) (hg : ∀ i : Nat, i < n → 0 ≤ rc (i : Int) ∧ rc (i : Int) ≤ 60) (ha : 0 ≤ aa ∧ aa ≤ 99) (s : Nat) (hs : s < 128) : zCi K yX1_letsPass cX1_letsPass 4 (some .boolean) 1 [.ref (kad K 4), .int (iI (s : Int))] (layC K (wE c (rc, (n : Int), aa))) (fun z u => z = letsI rc n aa s ∧ u = (layC K (wE c (rc, (n : Int), aa)))) := by
  refine zCi_in hI (by decide +kernel) (Nat.le_of_ble_eq_true rfl) (fun X O hE => ?_)
  refine r_iconst O dX1_letsPass_0 ?_
  refine n_istore_n O dX1_letsPass_1 (by decide) rfl ?_
  refine r_iconst O dX1_letsPass_2 ?_
  refine n_istore_n O dX1_letsPass_3 (by decide) rfl ?_
  have L4 : ∀ (zk : Nat) (i : Nat) (r : Int), (i ≤ n ∧ setSum rc s i = r) → 7 - i = zk → G K X 4 4 [(0, .ref (kad K 4)), (1, .int (iI (s : Int))), (2, .int (iI r)), (3, .int (iI (i : Int)))] [] (layC K (wE c (rc, (n : Int), aa))) := by
    intro zk
    induction zk using Nat.strongRecOn with
    | ind zk ih4 =>
      intro i r hinv hk
      obtain ⟨hi, hq⟩ := hinv
      have hsb := setSum_b hg s i hi
      refine n_iload_n O dX1_letsPass_4 rfl ?_
      refine n_aload_n O dX1_letsPass_5 rfl ?_
      refine E_get_mm O hN fl_X1_21 dX1_letsPass_6 ?_
      refine r_icmp_ge (tgt := 35) O ⟨by omega, by omega⟩ ⟨by omega, by omega⟩ dX1_letsPass_9 (by decide) (fun hc9 => ?_) (fun hc9 => ?_)
      · skip
        refine n_iload_n O dX1_letsPass_35 rfl ?_
        refine n_aload_n O dX1_letsPass_36 rfl ?_
        refine E_get_aa O hN fl_X1_25 dX1_letsPass_37 ?_
        refine r_icmp_lt (tgt := 47) O ⟨by omega, by omega⟩ ⟨by omega, by omega⟩ dX1_letsPass_40 (by decide) (fun hc40 => ?_) (fun hc40 => ?_)
        · skip
          refine r_iconst O dX1_letsPass_47 ?_
          exact hE _ _ _ _ dX1_letsPass_48 (nar01 (by omega)) (by have hin : i = n := (by omega); subst hin; exact ⟨by unfold letsI; rw [hq]; split <;> omega, rfl⟩)
        · skip
          refine r_iconst O dX1_letsPass_43 ?_
          refine r_goto (tgt := 48) O dX1_letsPass_44 (by decide) ?_
          exact hE _ _ _ _ dX1_letsPass_48 (nar01 (by omega)) (by have hin : i = n := (by omega); subst hin; exact ⟨by unfold letsI; rw [hq]; split <;> omega, rfl⟩)
      · skip
        refine n_iload_n O dX1_letsPass_12 rfl ?_
        refine n_iload_n O dX1_letsPass_13 rfl ?_
        refine r_callS2i O (C_X1_isIn hI _ s i (by omega) (by omega)) q_X1_29 (by decide) (by decide) (Nat.le_of_ble_eq_true rfl) dX1_letsPass_14 (fun zz14 zu14 hz14 => ?_)
        obtain ⟨rfl, rfl⟩ := hz14
        have hb01 := bitI_01 s i
        refine r_if_eq (tgt := 29) O ⟨by omega, by omega⟩ dX1_letsPass_17 (by decide) (fun hc17 => ?_) (fun hc17 => ?_)
        · skip
          refine n_iinc O dX1_letsPass_29 (by decide) rfl rfl ?_
          refine r_goto (tgt := 4) O dX1_letsPass_32 (by decide) ?_
          exact G_chk (ih4 _ (by omega) (i + 1) _ ⟨by omega, by show (if bitI s i = 1 then setSum rc s i + rc (i : Int) else setSum rc s i) = _; first | (rw [if_pos (by omega), hq]; done) | (rw [if_neg (by omega), hq]; done)⟩ rfl) (zsc rfl (zsc rfl (zsc rfl (zsc rfl zsn))))
        · skip
          refine n_iload_n O dX1_letsPass_20 rfl ?_
          refine n_aload_n O dX1_letsPass_21 rfl ?_
          refine E_get_rc O hN fl_X1_9 dX1_letsPass_22 ?_
          refine n_iload_n O dX1_letsPass_25 rfl ?_
          refine E_ld_rc O hN (by omega) (by omega) dX1_letsPass_26 ?_
          refine r_iadd O dX1_letsPass_27 ?_
          refine n_istore_n O dX1_letsPass_28 (by decide) rfl ?_
          refine n_iinc O dX1_letsPass_29 (by decide) rfl rfl ?_
          refine r_goto (tgt := 4) O dX1_letsPass_32 (by decide) ?_
          exact G_chk (ih4 _ (by omega) (i + 1) _ ⟨by omega, by show (if bitI s i = 1 then setSum rc s i + rc (i : Int) else setSum rc s i) = _; first | (rw [if_pos (by omega), hq]; done) | (rw [if_neg (by omega), hq]; done)⟩ rfl) (zsc rfl (zsc rfl (zsc rfl (zsc rfl zsn))))
  exact G_chk (L4 _ 0 0 ⟨by omega, rfl⟩ rfl) (zsc rfl (zsc rfl (zsc rfl (zsc rfl zsn))))
set_option maxHeartbeats 4000000 in
theorem C_X1_fewest {K : zK} (hI : zInj K) (hN : kN K = 85) (c : CS) (rc : Int → Int) (aa : Int) (n : Nat) (hn : n ≤ 7) (hg : ∀ i : Nat, i < n → 0 ≤ rc (i : Int) ∧ rc (i : Int) ≤ 60) (ha : 0 ≤ aa ∧ aa ≤ 99)  : zCi K yX1_fewest cX1_fewest 3 (some .int) 2 [.ref (kad K 4)] (layC K (wE c (rc, (n : Int), aa))) (fun z u => z = fewN (letsI rc n aa) (2 ^ n) ∧ u = (layC K (wE c (rc, (n : Int), aa)))) := by
  have hpw := pow_b n (by omega)
  refine zCi_in hI (by decide +kernel) (Nat.le_of_ble_eq_true rfl) (fun X O hE => ?_)
  refine r_bipush O (by decide +kernel) dX1_fewest_0 ?_
  refine n_istore_n O dX1_fewest_2 (by decide) rfl ?_
  refine r_iconst O dX1_fewest_3 ?_
  refine n_istore_n O dX1_fewest_4 (by decide) rfl ?_
  have L5 : ∀ (zk : Nat) (s : Nat) (b : Int), (s ≤ 2 ^ n ∧ fewN (letsI rc n aa) s = b) → 128 - s = zk → G K X 3 5 [(0, .ref (kad K 4)), (1, .int (iI b)), (2, .int (iI (s : Int)))] [] (layC K (wE c (rc, (n : Int), aa))) := by
    intro zk
    induction zk using Nat.strongRecOn with
    | ind zk ih5 =>
      intro s b hinv hk
      obtain ⟨hi, hq⟩ := hinv
      have hfb := fewN_b (letsI rc n aa) s
      rw [hq] at hfb
      refine n_iload_n O dX1_fewest_5 rfl ?_
      refine n_aload_n O dX1_fewest_6 rfl ?_
      refine r_callV0i O (C_X1_howMany hI hN _ _ _ _ hn) q_X1_33 (by rw [hN]; decide) (fs := _) rfl rfl rfl (by decide) (by decide) (Nat.le_of_ble_eq_true rfl) dX1_fewest_7 (fun zz7 zu7 hz7 => ?_)
      obtain ⟨rfl, rfl⟩ := hz7
      refine r_icmp_ge (tgt := 46) O ⟨by omega, by omega⟩ ⟨by omega, by omega⟩ dX1_fewest_10 (by decide) (fun hc10 => ?_) (fun hc10 => ?_)
      · skip
        refine n_iload_n O dX1_fewest_46 rfl ?_
        exact hE _ _ _ _ dX1_fewest_47 rfl (by have hin : s = 2 ^ n := (by omega); rw [← hin, hq]; exact ⟨rfl, rfl⟩)
      · skip
        refine n_aload_n O dX1_fewest_13 rfl ?_
        refine n_iload_n O dX1_fewest_14 rfl ?_
        refine r_callV1i O (C_X1_letsPass hI hN _ _ _ _ hn hg ha s (by omega)) q_X1_37 (by rw [hN]; decide) (fs := _) rfl rfl rfl (by decide) (by decide) (Nat.le_of_ble_eq_true rfl) dX1_fewest_15 (fun zz15 zu15 hz15 => ?_)
        obtain ⟨rfl, rfl⟩ := hz15
        have hl01 := letsI_01 rc n aa s
        refine r_if_eq (tgt := 40) O ⟨by omega, by omega⟩ dX1_fewest_18 (by decide) (fun hc18 => ?_) (fun hc18 => ?_)
        · skip
          refine n_iinc O dX1_fewest_40 (by decide) rfl rfl ?_
          refine r_goto (tgt := 5) O dX1_fewest_43 (by decide) ?_
          exact G_chk (ih5 _ (by omega) (s + 1) _ ⟨by omega, by show (if (letsI rc n aa) s = 1 ∧ (fewN (letsI rc n aa) s = -4 ∨ popN s < popN (fewN (letsI rc n aa) s).toNat) then (s : Int) else fewN (letsI rc n aa) s) = _; rw [hq]; first | (rw [if_pos (by omega)]; done) | (rw [if_neg (by omega)]; done)⟩ rfl) (zsc rfl (zsc rfl (zsc rfl zsn)))
        · skip
          refine n_iload_n O dX1_fewest_21 rfl ?_
          refine r_bipush O (by decide +kernel) dX1_fewest_22 ?_
          refine r_icmp_eq (tgt := 38) O ⟨by omega, by omega⟩ ⟨by omega, by omega⟩ dX1_fewest_24 (by decide) (fun hc24 => ?_) (fun hc24 => ?_)
          · skip
            refine n_iload_n O dX1_fewest_38 rfl ?_
            refine n_istore_n O dX1_fewest_39 (by decide) rfl ?_
            refine n_iinc O dX1_fewest_40 (by decide) rfl rfl ?_
            refine r_goto (tgt := 5) O dX1_fewest_43 (by decide) ?_
            exact G_chk (ih5 _ (by omega) (s + 1) _ ⟨by omega, by show (if (letsI rc n aa) s = 1 ∧ (fewN (letsI rc n aa) s = -4 ∨ popN s < popN (fewN (letsI rc n aa) s).toNat) then (s : Int) else fewN (letsI rc n aa) s) = _; rw [hq]; first | (rw [if_pos (by omega)]; done) | (rw [if_neg (by omega)]; done)⟩ rfl) (zsc rfl (zsc rfl (zsc rfl zsn)))
          · skip
            refine n_iload_n O dX1_fewest_27 rfl ?_
            refine r_callS1i O (C_J6_bitCount_0f7a4 hI _ s (by omega)) q_X1_41 (by decide) (by decide) (Nat.le_of_ble_eq_true rfl) dX1_fewest_28 (fun zz28 zu28 hz28 => ?_)
            obtain ⟨rfl, rfl⟩ := hz28
            refine n_iload_n O dX1_fewest_31 rfl ?_
            refine G_st (st' := .int (iI ((b.toNat : Nat) : Int)) :: _) (by rw [Int.toNat_of_nonneg (by omega)]) ?_
            refine r_callS1i O (C_J6_bitCount_0f7a4 hI _ b.toNat (by omega)) q_X1_41 (by decide) (by decide) (Nat.le_of_ble_eq_true rfl) dX1_fewest_32 (fun zz32 zu32 hz32 => ?_)
            obtain ⟨rfl, rfl⟩ := hz32
            have hp1 := popN_b s
            have hp2 := popN_b b.toNat
            refine r_icmp_ge (tgt := 40) O ⟨by omega, by omega⟩ ⟨by omega, by omega⟩ dX1_fewest_35 (by decide) (fun hc35 => ?_) (fun hc35 => ?_)
            · skip
              refine n_iinc O dX1_fewest_40 (by decide) rfl rfl ?_
              refine r_goto (tgt := 5) O dX1_fewest_43 (by decide) ?_
              exact G_chk (ih5 _ (by omega) (s + 1) _ ⟨by omega, by show (if (letsI rc n aa) s = 1 ∧ (fewN (letsI rc n aa) s = -4 ∨ popN s < popN (fewN (letsI rc n aa) s).toNat) then (s : Int) else fewN (letsI rc n aa) s) = _; rw [hq]; first | (rw [if_pos (by omega)]; done) | (rw [if_neg (by omega)]; done)⟩ rfl) (zsc rfl (zsc rfl (zsc rfl zsn)))
            · skip
              refine n_iload_n O dX1_fewest_38 rfl ?_
              refine n_istore_n O dX1_fewest_39 (by decide) rfl ?_
              refine n_iinc O dX1_fewest_40 (by decide) rfl rfl ?_
              refine r_goto (tgt := 5) O dX1_fewest_43 (by decide) ?_
              exact G_chk (ih5 _ (by omega) (s + 1) _ ⟨by omega, by show (if (letsI rc n aa) s = 1 ∧ (fewN (letsI rc n aa) s = -4 ∨ popN s < popN (fewN (letsI rc n aa) s).toNat) then (s : Int) else fewN (letsI rc n aa) s) = _; rw [hq]; first | (rw [if_pos (by omega)]; done) | (rw [if_neg (by omega)]; done)⟩ rfl) (zsc rfl (zsc rfl (zsc rfl zsn)))
  exact G_chk (L5 _ 0 (-4) ⟨by omega, rfl⟩ rfl) (zsc rfl (zsc rfl (zsc rfl zsn)))
set_option maxHeartbeats 4000000 in
theorem C_X1_orders {K : zK} (hI : zInj K) (hN : kN K = 85) (c : CS) (rc : Int → Int) (aa : Int) (n : Nat) (hn : n ≤ 7)  : zCi K yX1_orders cX1_orders 1 (some .int) 1 [.ref (kad K 4)] (layC K (wE c (rc, (n : Int), aa))) (fun z u => z = facN n ∧ u = (layC K (wE c (rc, (n : Int), aa)))) := by
  refine zCi_in hI (by decide +kernel) (Nat.le_of_ble_eq_true rfl) (fun X O hE => ?_)
  refine n_aload_n O dX1_orders_0 rfl ?_
  refine E_get_mm O hN fl_X1_21 dX1_orders_1 ?_
  refine r_callS1i O (C_X1_factorial hI _ n (by omega)) q_X1_46 (by decide) (by decide) (Nat.le_of_ble_eq_true rfl) dX1_orders_4 (fun zz4 zu4 hz4 => ?_)
  obtain ⟨rfl, rfl⟩ := hz4
  exact hE _ _ _ _ dX1_orders_7 rfl ⟨rfl, rfl⟩
set_option maxHeartbeats 4000000 in
theorem C_X1_ordersDecidedBy {K : zK} (hI : zInj K) (hN : kN K = 85) (c : CS) (rc : Int → Int) (aa : Int) (n : Nat) (hn : n ≤ 7) (hg : ∀ i : Nat, i < n → 0 ≤ rc (i : Int) ∧ rc (i : Int) ≤ 60) (ha : 0 ≤ aa ∧ aa ≤ 99) (i : Nat) (hin : i < n) : zCi K yX1_ordersDecidedBy cX1_ordersDecidedBy 5 (some .int) 2 [.ref (kad K 4), .int (iI (i : Int))] (layC K (wE c (rc, (n : Int), aa))) (fun z u => z = decN (letsI rc n aa) n i (2 ^ n) ∧ u = (layC K (wE c (rc, (n : Int), aa)))) := by
  have hpw := pow_b n (by omega)
  refine zCi_in hI (by decide +kernel) (Nat.le_of_ble_eq_true rfl) (fun X O hE => ?_)
  refine r_iconst O dX1_ordersDecidedBy_0 ?_
  refine n_istore_n O dX1_ordersDecidedBy_1 (by decide) rfl ?_
  refine r_iconst O dX1_ordersDecidedBy_2 ?_
  refine n_istore_n O dX1_ordersDecidedBy_3 (by decide) rfl ?_
  have L4 : ∀ (zk : Nat) (s : Nat) (b : Int), (s ≤ 2 ^ n ∧ decN (letsI rc n aa) n i s = b) → 128 - s = zk → G K X 5 4 [(0, .ref (kad K 4)), (1, .int (iI (i : Int))), (2, .int (iI b)), (3, .int (iI (s : Int)))] [] (layC K (wE c (rc, (n : Int), aa))) := by
    intro zk
    induction zk using Nat.strongRecOn with
    | ind zk ih4 =>
      intro s b hinv hk
      obtain ⟨hi, hq⟩ := hinv
      refine n_iload_n O dX1_ordersDecidedBy_4 rfl ?_
      refine n_aload_n O dX1_ordersDecidedBy_5 rfl ?_
      refine r_callV0i O (C_X1_howMany hI hN _ _ _ _ hn) q_X1_33 (by rw [hN]; decide) (fs := _) rfl rfl rfl (by decide) (by decide) (Nat.le_of_ble_eq_true rfl) dX1_ordersDecidedBy_6 (fun zz6 zu6 hz6 => ?_)
      obtain ⟨rfl, rfl⟩ := hz6
      refine r_icmp_ge (tgt := 73) O ⟨by omega, by omega⟩ ⟨by omega, by omega⟩ dX1_ordersDecidedBy_9 (by decide) (fun hc9 => ?_) (fun hc9 => ?_)
      · skip
        refine n_iload_n O dX1_ordersDecidedBy_73 rfl ?_
        exact hE _ _ _ _ dX1_ordersDecidedBy_74 rfl (by have hi2 : s = 2 ^ n := (by omega); rw [← hi2, hq]; exact ⟨rfl, rfl⟩)
      · skip
        have hs7 : s < 128 := by omega
        have h5 := bit_d5 s hs7 i (by omega)
        refine n_iload_n O dX1_ordersDecidedBy_12 rfl ?_
        refine n_iload_n O dX1_ordersDecidedBy_13 rfl ?_
        refine r_callS2i O (C_X1_isIn hI _ s i (by omega) (by omega)) q_X1_29 (by decide) (by decide) (Nat.le_of_ble_eq_true rfl) dX1_ordersDecidedBy_14 (fun zz14 zu14 hz14 => ?_)
        obtain ⟨rfl, rfl⟩ := hz14
        have hb01 := bitI_01 s i
        refine r_if_ne (tgt := 67) O ⟨by omega, by omega⟩ dX1_ordersDecidedBy_17 (by decide) (fun hc17 => ?_) (fun hc17 => ?_)
        · skip
          refine n_iinc O dX1_ordersDecidedBy_67 (by decide) rfl rfl ?_
          refine r_goto (tgt := 4) O dX1_ordersDecidedBy_70 (by decide) ?_
          exact G_chk (ih4 _ (by omega) (s + 1) _ ⟨by omega, by show (if bitI s i = 0 ∧ (letsI rc n aa) s = 0 ∧ (letsI rc n aa) (s ||| 2 ^ i) = 1 then decN (letsI rc n aa) n i s + facN (popN s) * facN (n - 1 - popN s) else decN (letsI rc n aa) n i s) = _; rw [hq]; first | (rw [if_pos (by omega)]; done) | (rw [if_neg (by omega)]; done)⟩ rfl) (zsc rfl (zsc rfl (zsc rfl (zsc rfl zsn))))
        · skip
          refine n_aload_n O dX1_ordersDecidedBy_20 rfl ?_
          refine n_iload_n O dX1_ordersDecidedBy_21 rfl ?_
          refine r_callV1i O (C_X1_letsPass hI hN _ _ _ _ hn hg ha s (by omega)) q_X1_37 (by rw [hN]; decide) (fs := _) rfl rfl rfl (by decide) (by decide) (Nat.le_of_ble_eq_true rfl) dX1_ordersDecidedBy_22 (fun zz22 zu22 hz22 => ?_)
          obtain ⟨rfl, rfl⟩ := hz22
          have hl01 := letsI_01 rc n aa s
          refine r_if_ne (tgt := 67) O ⟨by omega, by omega⟩ dX1_ordersDecidedBy_25 (by decide) (fun hc25 => ?_) (fun hc25 => ?_)
          · skip
            refine n_iinc O dX1_ordersDecidedBy_67 (by decide) rfl rfl ?_
            refine r_goto (tgt := 4) O dX1_ordersDecidedBy_70 (by decide) ?_
            exact G_chk (ih4 _ (by omega) (s + 1) _ ⟨by omega, by show (if bitI s i = 0 ∧ (letsI rc n aa) s = 0 ∧ (letsI rc n aa) (s ||| 2 ^ i) = 1 then decN (letsI rc n aa) n i s + facN (popN s) * facN (n - 1 - popN s) else decN (letsI rc n aa) n i s) = _; rw [hq]; first | (rw [if_pos (by omega)]; done) | (rw [if_neg (by omega)]; done)⟩ rfl) (zsc rfl (zsc rfl (zsc rfl (zsc rfl zsn))))
          · skip
            refine n_aload_n O dX1_ordersDecidedBy_28 rfl ?_
            refine n_iload_n O dX1_ordersDecidedBy_29 rfl ?_
            refine r_iconst O dX1_ordersDecidedBy_30 ?_
            refine n_iload_n O dX1_ordersDecidedBy_31 rfl ?_
            refine r_ishl O (bit_shl (by omega)) dX1_ordersDecidedBy_32 ?_
            refine r_ior O (bit_or (by omega) (by omega)) dX1_ordersDecidedBy_33 ?_
            refine r_callV1i O (C_X1_letsPass hI hN _ _ _ _ hn hg ha (s ||| 2 ^ i) (by omega)) q_X1_37 (by rw [hN]; decide) (fs := _) rfl rfl rfl (by decide) (by decide) (Nat.le_of_ble_eq_true rfl) dX1_ordersDecidedBy_34 (fun zz34 zu34 hz34 => ?_)
            obtain ⟨rfl, rfl⟩ := hz34
            have hlo01 := letsI_01 rc n aa (s ||| 2 ^ i)
            refine r_if_eq (tgt := 67) O ⟨by omega, by omega⟩ dX1_ordersDecidedBy_37 (by decide) (fun hc37 => ?_) (fun hc37 => ?_)
            · skip
              refine n_iinc O dX1_ordersDecidedBy_67 (by decide) rfl rfl ?_
              refine r_goto (tgt := 4) O dX1_ordersDecidedBy_70 (by decide) ?_
              exact G_chk (ih4 _ (by omega) (s + 1) _ ⟨by omega, by show (if bitI s i = 0 ∧ (letsI rc n aa) s = 0 ∧ (letsI rc n aa) (s ||| 2 ^ i) = 1 then decN (letsI rc n aa) n i s + facN (popN s) * facN (n - 1 - popN s) else decN (letsI rc n aa) n i s) = _; rw [hq]; first | (rw [if_pos (by omega)]; done) | (rw [if_neg (by omega)]; done)⟩ rfl) (zsc rfl (zsc rfl (zsc rfl (zsc rfl zsn))))
            · skip
              refine n_iload_n O dX1_ordersDecidedBy_40 rfl ?_
              refine r_callS1i O (C_J6_bitCount_0f7a4 hI _ s (by omega)) q_X1_41 (by decide) (by decide) (Nat.le_of_ble_eq_true rfl) dX1_ordersDecidedBy_41 (fun zz41 zu41 hz41 => ?_)
              obtain ⟨rfl, rfl⟩ := hz41
              refine n_istore O dX1_ordersDecidedBy_44 (by decide) rfl ?_
              have hpl := (pop_lt n (by omega) s (by omega)).2 i hin (by omega)
              have h8 : popN s ≤ 7 := popN_b s
              refine n_iload_n O dX1_ordersDecidedBy_46 rfl ?_
              refine n_iload O dX1_ordersDecidedBy_47 rfl ?_
              refine r_callS1i O (C_X1_factorial hI _ (popN s) (by omega)) q_X1_46 (by decide) (by decide) (Nat.le_of_ble_eq_true rfl) dX1_ordersDecidedBy_49 (fun zz49 zu49 hz49 => ?_)
              obtain ⟨rfl, rfl⟩ := hz49
              refine n_aload_n O dX1_ordersDecidedBy_52 rfl ?_
              refine E_get_mm O hN fl_X1_21 dX1_ordersDecidedBy_53 ?_
              refine r_iconst O dX1_ordersDecidedBy_56 ?_
              refine r_isub O dX1_ordersDecidedBy_57 ?_
              refine n_iload O dX1_ordersDecidedBy_58 rfl ?_
              refine r_isub O dX1_ordersDecidedBy_60 ?_
              refine G_st (st' := .int (iI ((n - 1 - popN s : Nat) : Int)) :: _) (by have e : ((n : Int) - 1 - (popN s : Int)) = ((n - 1 - popN s : Nat) : Int) := (by omega); rw [e]) ?_
              refine r_callS1i O (C_X1_factorial hI _ (n - 1 - popN s) (by omega)) q_X1_46 (by decide) (by decide) (Nat.le_of_ble_eq_true rfl) dX1_ordersDecidedBy_61 (fun zz61 zu61 hz61 => ?_)
              obtain ⟨rfl, rfl⟩ := hz61
              refine r_imul O dX1_ordersDecidedBy_64 ?_
              refine r_iadd O dX1_ordersDecidedBy_65 ?_
              refine n_istore_n O dX1_ordersDecidedBy_66 (by decide) rfl ?_
              refine n_iinc O dX1_ordersDecidedBy_67 (by decide) rfl rfl ?_
              refine r_goto (tgt := 4) O dX1_ordersDecidedBy_70 (by decide) ?_
              exact G_chk (ih4 _ (by omega) (s + 1) _ ⟨by omega, by show (if bitI s i = 0 ∧ (letsI rc n aa) s = 0 ∧ (letsI rc n aa) (s ||| 2 ^ i) = 1 then decN (letsI rc n aa) n i s + facN (popN s) * facN (n - 1 - popN s) else decN (letsI rc n aa) n i s) = _; rw [hq]; first | (rw [if_pos (by omega)]; done) | (rw [if_neg (by omega)]; done)⟩ rfl) (zsc rfl (zsc rfl (zsc rfl (zsc rfl zsn))))
  exact G_chk (L4 _ 0 0 ⟨by omega, rfl⟩ rfl) (zsc rfl (zsc rfl (zsc rfl (zsc rfl zsn))))
set_option maxHeartbeats 4000000 in
theorem C_X1_cases {K : zK} (hI : zInj K) (hN : kN K = 85) (c : CS) (rc : Int → Int) (aa : Int) (n : Nat) (hn : n ≤ 7)  : zCi K yX1_cases cX1_cases 3 (some .int) 0 [.ref (kad K 4)] (layC K (wE c (rc, (n : Int), aa))) (fun z u => z = tenN n ∧ u = (layC K (wE c (rc, (n : Int), aa)))) := by
  refine zCi_in hI (by decide +kernel) (Nat.le_of_ble_eq_true rfl) (fun X O hE => ?_)
  refine r_iconst O dX1_cases_0 ?_
  refine n_istore_n O dX1_cases_1 (by decide) rfl ?_
  refine r_iconst O dX1_cases_2 ?_
  refine n_istore_n O dX1_cases_3 (by decide) rfl ?_
  have L4 : ∀ (zk : Nat) (i : Nat), (i ≤ n) → 7 - i = zk → G K X 3 4 [(0, .ref (kad K 4)), (1, .int (iI (tenN i))), (2, .int (iI (i : Int)))] [] (layC K (wE c (rc, (n : Int), aa))) := by
    intro zk
    induction zk using Nat.strongRecOn with
    | ind zk ih4 =>
      intro i hinv hk
      refine n_iload_n O dX1_cases_4 rfl ?_
      refine n_aload_n O dX1_cases_5 rfl ?_
      refine E_get_mm O hN fl_X1_21 dX1_cases_6 ?_
      refine r_icmp_ge (tgt := 23) O ⟨by omega, by omega⟩ ⟨by omega, by omega⟩ dX1_cases_9 (by decide) (fun hc9 => ?_) (fun hc9 => ?_)
      · skip
        refine n_iload_n O dX1_cases_23 rfl ?_
        exact hE _ _ _ _ dX1_cases_24 rfl (by have hin : n = i := (by omega); rw [hin]; exact ⟨rfl, rfl⟩)
      · skip
        refine n_iload_n O dX1_cases_12 rfl ?_
        refine r_bipush O (by decide +kernel) dX1_cases_13 ?_
        refine r_imul O dX1_cases_15 ?_
        refine n_istore_n O dX1_cases_16 (by decide) rfl ?_
        refine n_iinc O dX1_cases_17 (by decide) rfl rfl ?_
        refine r_goto (tgt := 4) O dX1_cases_20 (by decide) ?_
        exact G_chk (ih4 _ (by omega) (i + 1) (by omega) rfl) (zsc rfl (zsc rfl (zsc rfl zsn)))
  exact G_chk (L4 _ 0 (by omega) rfl) (zsc rfl (zsc rfl (zsc rfl zsn)))
set_option maxHeartbeats 4000000 in
theorem C_X1_casesOf {K : zK} (hI : zInj K) (hN : kN K = 85) (c : CS) (rc : Int → Int) (aa : Int) (n : Nat) (hn : n ≤ 7) (s : Nat) (hs : s < 128) (x : Int) (hx0 : 0 ≤ x) (hx1 : x ≤ 10) : zCi K yX1_casesOf cX1_casesOf 5 (some .int) 1 [.ref (kad K 4), .int (iI (s : Int)), .int (iI x)] (layC K (wE c (rc, (n : Int), aa))) (fun z u => z = casN x s n ∧ u = (layC K (wE c (rc, (n : Int), aa)))) := by
  refine zCi_in hI (by decide +kernel) (Nat.le_of_ble_eq_true rfl) (fun X O hE => ?_)
  refine r_iconst O dX1_casesOf_0 ?_
  refine n_istore_n O dX1_casesOf_1 (by decide) rfl ?_
  refine r_iconst O dX1_casesOf_2 ?_
  refine n_istore O dX1_casesOf_3 (by decide) rfl ?_
  have L5 : ∀ (zk : Nat) (i : Nat) (r : Int), (i ≤ n ∧ casN x s i = r) → 7 - i = zk → G K X 5 5 [(0, .ref (kad K 4)), (1, .int (iI (s : Int))), (2, .int (iI x)), (3, .int (iI r)), (4, .int (iI (i : Int)))] [] (layC K (wE c (rc, (n : Int), aa))) := by
    intro zk
    induction zk using Nat.strongRecOn with
    | ind zk ih5 =>
      intro i r hinv hk
      obtain ⟨hi, hq⟩ := hinv
      refine n_iload O dX1_casesOf_5 rfl ?_
      refine n_aload_n O dX1_casesOf_7 rfl ?_
      refine E_get_mm O hN fl_X1_21 dX1_casesOf_8 ?_
      refine r_icmp_ge (tgt := 40) O ⟨by omega, by omega⟩ ⟨by omega, by omega⟩ dX1_casesOf_11 (by decide) (fun hc11 => ?_) (fun hc11 => ?_)
      · skip
        refine n_iload_n O dX1_casesOf_40 rfl ?_
        exact hE _ _ _ _ dX1_casesOf_41 rfl (by have hin : i = n := (by omega); subst hin; exact ⟨hq.symm, rfl⟩)
      · skip
        refine n_iload_n O dX1_casesOf_14 rfl ?_
        refine n_iload_n O dX1_casesOf_15 rfl ?_
        refine n_iload O dX1_casesOf_16 rfl ?_
        refine r_callS2i O (C_X1_isIn hI _ s i (by omega) (by omega)) q_X1_29 (by decide) (by decide) (Nat.le_of_ble_eq_true rfl) dX1_casesOf_18 (fun zz18 zu18 hz18 => ?_)
        obtain ⟨rfl, rfl⟩ := hz18
        have hb01 := bitI_01 s i
        refine r_if_eq (tgt := 28) O ⟨by omega, by omega⟩ dX1_casesOf_21 (by decide) (fun hc21 => ?_) (fun hc21 => ?_)
        · skip
          refine r_bipush O (by decide +kernel) dX1_casesOf_28 ?_
          refine n_iload_n O dX1_casesOf_30 rfl ?_
          refine r_isub O dX1_casesOf_31 ?_
          refine r_imul O dX1_casesOf_32 ?_
          refine n_istore_n O dX1_casesOf_33 (by decide) rfl ?_
          refine n_iinc O dX1_casesOf_34 (by decide) rfl rfl ?_
          refine r_goto (tgt := 5) O dX1_casesOf_37 (by decide) ?_
          exact G_chk (ih5 _ (by omega) (i + 1) _ ⟨by omega, by show casN x s i * (if bitI s i = 1 then x else 10 - x) = _; rw [hq]; first | (rw [if_pos (by omega)]; done) | (rw [if_neg (by omega)]; done)⟩ rfl) (zsc rfl (zsc rfl (zsc rfl (zsc rfl (zsc rfl zsn)))))
        · skip
          refine n_iload_n O dX1_casesOf_24 rfl ?_
          refine r_goto (tgt := 32) O dX1_casesOf_25 (by decide) ?_
          refine r_imul O dX1_casesOf_32 ?_
          refine n_istore_n O dX1_casesOf_33 (by decide) rfl ?_
          refine n_iinc O dX1_casesOf_34 (by decide) rfl rfl ?_
          refine r_goto (tgt := 5) O dX1_casesOf_37 (by decide) ?_
          exact G_chk (ih5 _ (by omega) (i + 1) _ ⟨by omega, by show casN x s i * (if bitI s i = 1 then x else 10 - x) = _; rw [hq]; first | (rw [if_pos (by omega)]; done) | (rw [if_neg (by omega)]; done)⟩ rfl) (zsc rfl (zsc rfl (zsc rfl (zsc rfl (zsc rfl zsn)))))
  exact G_chk (L5 _ 0 1 ⟨by omega, rfl⟩ rfl) (zsc rfl (zsc rfl (zsc rfl (zsc rfl (zsc rfl zsn)))))
set_option maxHeartbeats 4000000 in
theorem C_X1_passingCasesBy {K : zK} (hI : zInj K) (hN : kN K = 85) (c : CS) (rc : Int → Int) (aa : Int) (n : Nat) (hn : n ≤ 7) (hg : ∀ i : Nat, i < n → 0 ≤ rc (i : Int) ∧ rc (i : Int) ≤ 60) (ha : 0 ≤ aa ∧ aa ≤ 99) (x : Int) (hx0 : 0 ≤ x) (hx1 : x ≤ 10) : zCi K yX1_passingCasesBy cX1_passingCasesBy 4 (some .int) 2 [.ref (kad K 4), .int (iI x)] (layC K (wE c (rc, (n : Int), aa))) (fun z u => z = likN (letsI rc n aa) x n (2 ^ n) ∧ u = (layC K (wE c (rc, (n : Int), aa)))) := by
  have hpw := pow_b n (by omega)
  refine zCi_in hI (by decide +kernel) (Nat.le_of_ble_eq_true rfl) (fun X O hE => ?_)
  refine r_iconst O dX1_passingCasesBy_0 ?_
  refine n_istore_n O dX1_passingCasesBy_1 (by decide) rfl ?_
  refine r_iconst O dX1_passingCasesBy_2 ?_
  refine n_istore_n O dX1_passingCasesBy_3 (by decide) rfl ?_
  have L4 : ∀ (zk : Nat) (s : Nat) (b : Int), (s ≤ 2 ^ n ∧ likN (letsI rc n aa) x n s = b) → 128 - s = zk → G K X 4 4 [(0, .ref (kad K 4)), (1, .int (iI x)), (2, .int (iI b)), (3, .int (iI (s : Int)))] [] (layC K (wE c (rc, (n : Int), aa))) := by
    intro zk
    induction zk using Nat.strongRecOn with
    | ind zk ih4 =>
      intro s b hinv hk
      obtain ⟨hi, hq⟩ := hinv
      refine n_iload_n O dX1_passingCasesBy_4 rfl ?_
      refine n_aload_n O dX1_passingCasesBy_5 rfl ?_
      refine r_callV0i O (C_X1_howMany hI hN _ _ _ _ hn) q_X1_33 (by rw [hN]; decide) (fs := _) rfl rfl rfl (by decide) (by decide) (Nat.le_of_ble_eq_true rfl) dX1_passingCasesBy_6 (fun zz6 zu6 hz6 => ?_)
      obtain ⟨rfl, rfl⟩ := hz6
      refine r_icmp_ge (tgt := 35) O ⟨by omega, by omega⟩ ⟨by omega, by omega⟩ dX1_passingCasesBy_9 (by decide) (fun hc9 => ?_) (fun hc9 => ?_)
      · skip
        refine n_iload_n O dX1_passingCasesBy_35 rfl ?_
        exact hE _ _ _ _ dX1_passingCasesBy_36 rfl (by have hi2 : s = 2 ^ n := (by omega); rw [← hi2, hq]; exact ⟨rfl, rfl⟩)
      · skip
        refine n_aload_n O dX1_passingCasesBy_12 rfl ?_
        refine n_iload_n O dX1_passingCasesBy_13 rfl ?_
        refine r_callV1i O (C_X1_letsPass hI hN _ _ _ _ hn hg ha s (by omega)) q_X1_37 (by rw [hN]; decide) (fs := _) rfl rfl rfl (by decide) (by decide) (Nat.le_of_ble_eq_true rfl) dX1_passingCasesBy_14 (fun zz14 zu14 hz14 => ?_)
        obtain ⟨rfl, rfl⟩ := hz14
        have hl01 := letsI_01 rc n aa s
        refine r_if_eq (tgt := 29) O ⟨by omega, by omega⟩ dX1_passingCasesBy_17 (by decide) (fun hc17 => ?_) (fun hc17 => ?_)
        · skip
          refine n_iinc O dX1_passingCasesBy_29 (by decide) rfl rfl ?_
          refine r_goto (tgt := 4) O dX1_passingCasesBy_32 (by decide) ?_
          exact G_chk (ih4 _ (by omega) (s + 1) _ ⟨by omega, by show (if (letsI rc n aa) s = 1 then likN (letsI rc n aa) x n s + casN x s n else likN (letsI rc n aa) x n s) = _; rw [hq]; first | (rw [if_pos (by omega)]; done) | (rw [if_neg (by omega)]; done)⟩ rfl) (zsc rfl (zsc rfl (zsc rfl (zsc rfl zsn))))
        · skip
          refine n_iload_n O dX1_passingCasesBy_20 rfl ?_
          refine n_aload_n O dX1_passingCasesBy_21 rfl ?_
          refine n_iload_n O dX1_passingCasesBy_22 rfl ?_
          refine n_iload_n O dX1_passingCasesBy_23 rfl ?_
          refine r_callV2i O (C_X1_casesOf hI hN _ _ _ _ hn s (by omega) x hx0 hx1) q_X1_49 (by rw [hN]; decide) (fs := _) rfl rfl rfl (by decide) (by decide) (Nat.le_of_ble_eq_true rfl) dX1_passingCasesBy_24 (fun zz24 zu24 hz24 => ?_)
          obtain ⟨rfl, rfl⟩ := hz24
          refine r_iadd O dX1_passingCasesBy_27 ?_
          refine n_istore_n O dX1_passingCasesBy_28 (by decide) rfl ?_
          refine n_iinc O dX1_passingCasesBy_29 (by decide) rfl rfl ?_
          refine r_goto (tgt := 4) O dX1_passingCasesBy_32 (by decide) ?_
          exact G_chk (ih4 _ (by omega) (s + 1) _ ⟨by omega, by show (if (letsI rc n aa) s = 1 then likN (letsI rc n aa) x n s + casN x s n else likN (letsI rc n aa) x n s) = _; rw [hq]; first | (rw [if_pos (by omega)]; done) | (rw [if_neg (by omega)]; done)⟩ rfl) (zsc rfl (zsc rfl (zsc rfl (zsc rfl zsn))))
  exact G_chk (L4 _ 0 0 ⟨by omega, rfl⟩ rfl) (zsc rfl (zsc rfl (zsc rfl (zsc rfl zsn))))
set_option maxHeartbeats 4000000 in
theorem C_X1_measure {K : zK} (hI : zInj K) (hN : kN K = 85) (c : CS) (rc : Int → Int) (mm aa : Int) (j : Nat) (hj : j < 12) (hv : okV (c.1 j)) : zCv K yX1_measure cX1_measure 3 3 [.ref (kad K 4), .ref (kad K (6 * j + 13))] (layC K (wE c (rc, mm, aa))) (fun u => ∃ g : Int → Int, (∀ i : Nat, (i : Int) < qn (c.1 j) → g (i : Int) = reachV (c.1 j) (i : Int)) ∧ u = layC K (wE c (g, qn (c.1 j), qam (c.1 j)))) := by
  have hn7 := hv.1
  refine zCv_in hI (by decide +kernel) (Nat.le_of_ble_eq_true rfl) (fun X O hE => ?_)
  refine n_aload_n O dX1_measure_0 rfl ?_
  refine n_aload_n O dX1_measure_1 rfl ?_
  refine t_get_n O hN hj fl_X1_15 dX1_measure_2 ?_
  refine G_st (st' := .int (iI (qn (c.1 j))) :: _) rfl ?_
  refine E_put_mm O hN fl_X1_21 dX1_measure_5 ?_
  refine n_aload_n O dX1_measure_8 rfl ?_
  refine n_aload_n O dX1_measure_9 rfl ?_
  refine t_get_am O hN hj fl_X1_22 dX1_measure_10 ?_
  refine G_st (st' := .int (iI (qam (c.1 j))) :: _) rfl ?_
  refine E_put_aa O hN fl_X1_25 dX1_measure_13 ?_
  refine r_iconst O dX1_measure_16 ?_
  refine n_istore_n O dX1_measure_17 (by decide) rfl ?_
  have L18 : ∀ (zk : Nat) (i : Nat) (g : Int → Int), ((i : Int) ≤ qn (c.1 j) ∧ ∀ m : Nat, m < i → g (m : Int) = reachV (c.1 j) (m : Int)) → 7 - i = zk → G K X 3 18 [(0, .ref (kad K 4)), (1, .ref (kad K (6 * j + 13))), (2, .int (iI (i : Int)))] [] (layC K (wE c (g, qn (c.1 j), qam (c.1 j)))) := by
    intro zk
    induction zk using Nat.strongRecOn with
    | ind zk ih18 =>
      intro i g hinv hk
      obtain ⟨hi, hq⟩ := hinv
      refine n_iload_n O dX1_measure_18 rfl ?_
      refine n_aload_n O dX1_measure_19 rfl ?_
      refine E_get_mm O hN fl_X1_21 dX1_measure_20 ?_
      refine r_icmp_ge (tgt := 43) O ⟨by omega, by omega⟩ ⟨by omega, by omega⟩ dX1_measure_23 (by decide) (fun hc23 => ?_) (fun hc23 => ?_)
      · skip
        exact hE _ _ _ dX1_measure_43 ⟨g, fun m hm => hq m (by omega), rfl⟩
      · skip
        refine n_aload_n O dX1_measure_26 rfl ?_
        refine E_get_rc O hN fl_X1_9 dX1_measure_27 ?_
        refine n_iload_n O dX1_measure_30 rfl ?_
        refine n_aload_n O dX1_measure_31 rfl ?_
        refine n_iload_n O dX1_measure_32 rfl ?_
        refine r_callV1i O (E_X3_reach hI hN (wE c (g, qn (c.1 j), qam (c.1 j))) j hj hv (i : Int) (by omega) (by show (i : Int) < qn (c.1 j); omega)) q_X1_26 (by rw [hN]; omega) (lay_j0 K _ _) rfl rfl (by decide) (by decide) (Nat.le_of_ble_eq_true rfl) dX1_measure_33 (fun zz33 zu33 hz33 => ?_)
        obtain ⟨rfl, rfl⟩ := hz33
        refine E_st_rc O hN (by omega) (by omega) dX1_measure_36 ?_
        refine n_iinc O dX1_measure_37 (by decide) rfl rfl ?_
        refine r_goto (tgt := 18) O dX1_measure_40 (by decide) ?_
        exact G_chk (ih18 _ (by omega) (i + 1) _ ⟨by omega, fun m hm => by unfold uI; by_cases e : (m : Int) = (i : Int); (rw [if_pos e, e]; first | done | rfl); (rw [if_neg e]; exact hq m (by omega))⟩ rfl) (zsc rfl (zsc rfl (zsc rfl zsn)))
  exact G_chk (L18 _ 0 rc ⟨by omega, fun m hm => by omega⟩ rfl) (zsc rfl (zsc rfl (zsc rfl zsn)))
end
section
theorem zz_test : True := trivial
end
