section
-- ===== PART A: goes FIRST, ahead of the names: the tables' words, and 'selects' of the private methods out of them =====
/-- a private method of a class that the tables say can be made, by its rows of tables_1 -/
def lw_okq (q : MethodName × Nat) : Prop := (q.1.cls ≠ "java/lang/invoke/MethodHandle" ∧ q.1.cls ≠ "java/lang/invoke/VarHandle") ∧ Cond.instantiable q.1.cls q.2 ∈ tables_1 ∧ Cond.privateMethod q.1 ∈ tables_1 ∧ Cond.instanceMethod q.1 ∈ tables_1
theorem lw_p0 : lw_okq (⟨"SpoonVotes$Text", "readItem", "(I)I"⟩, 3) := ⟨⟨by decide +kernel, by decide +kernel⟩, List.mem_of_getElem? (i := 24) (by decide +kernel), List.mem_of_getElem? (i := 210) (by decide +kernel), List.mem_of_getElem? (i := 211) (by decide +kernel)⟩
theorem lw_p1 : lw_okq (⟨"SpoonVotes$Text", "at", "(I)C"⟩, 3) := ⟨⟨by decide +kernel, by decide +kernel⟩, List.mem_of_getElem? (i := 24) (by decide +kernel), List.mem_of_getElem? (i := 214) (by decide +kernel), List.mem_of_getElem? (i := 215) (by decide +kernel)⟩
theorem lw_p2 : lw_okq (⟨"SpoonVotes$Text", "figuresAt", "(I)I"⟩, 3) := ⟨⟨by decide +kernel, by decide +kernel⟩, List.mem_of_getElem? (i := 24) (by decide +kernel), List.mem_of_getElem? (i := 221) (by decide +kernel), List.mem_of_getElem? (i := 222) (by decide +kernel)⟩
theorem lw_p3 : lw_okq (⟨"SpoonVotes$Text", "isFigure", "(I)Z"⟩, 3) := ⟨⟨by decide +kernel, by decide +kernel⟩, List.mem_of_getElem? (i := 24) (by decide +kernel), List.mem_of_getElem? (i := 225) (by decide +kernel), List.mem_of_getElem? (i := 226) (by decide +kernel)⟩
theorem lw_p4 : lw_okq (⟨"SpoonVotes$Text", "figure", "(I)I"⟩, 3) := ⟨⟨by decide +kernel, by decide +kernel⟩, List.mem_of_getElem? (i := 24) (by decide +kernel), List.mem_of_getElem? (i := 229) (by decide +kernel), List.mem_of_getElem? (i := 230) (by decide +kernel)⟩
theorem lw_p5 : lw_okq (⟨"SpoonVotes$Text", "isTaken", "(CLSpoonVotes$Sitting;)Z"⟩, 3) := ⟨⟨by decide +kernel, by decide +kernel⟩, List.mem_of_getElem? (i := 24) (by decide +kernel), List.mem_of_getElem? (i := 233) (by decide +kernel), List.mem_of_getElem? (i := 234) (by decide +kernel)⟩
theorem lw_p6 : lw_okq (⟨"SpoonVotes", "isNoMember", "(I)Z"⟩, 7) := ⟨⟨by decide +kernel, by decide +kernel⟩, List.mem_of_getElem? (i := 16) (by decide +kernel), List.mem_of_getElem? (i := 319) (by decide +kernel), List.mem_of_getElem? (i := 320) (by decide +kernel)⟩
theorem lw_p7 : lw_okq (⟨"SpoonVotes$Sitting", "spoonful", "(II)I"⟩, 11) := ⟨⟨by decide +kernel, by decide +kernel⟩, List.mem_of_getElem? (i := 43) (by decide +kernel), List.mem_of_getElem? (i := 327) (by decide +kernel), List.mem_of_getElem? (i := 328) (by decide +kernel)⟩
theorem lw_p8 : lw_okq (⟨"SpoonVotes$Pile", "dropLowest", "()V"⟩, 2) := ⟨⟨by decide +kernel, by decide +kernel⟩, List.mem_of_getElem? (i := 129) (by decide +kernel), List.mem_of_getElem? (i := 345) (by decide +kernel), List.mem_of_getElem? (i := 346) (by decide +kernel)⟩
theorem lw_p9 : lw_okq (⟨"SpoonVotes$Sitting", "sum", "([I)I"⟩, 11) := ⟨⟨by decide +kernel, by decide +kernel⟩, List.mem_of_getElem? (i := 43) (by decide +kernel), List.mem_of_getElem? (i := 405) (by decide +kernel), List.mem_of_getElem? (i := 406) (by decide +kernel)⟩
theorem lw_p10 : lw_okq (⟨"SpoonVotes$Sets", "howMany", "()I"⟩, 3) := ⟨⟨by decide +kernel, by decide +kernel⟩, List.mem_of_getElem? (i := 96) (by decide +kernel), List.mem_of_getElem? (i := 477) (by decide +kernel), List.mem_of_getElem? (i := 478) (by decide +kernel)⟩
theorem lw_p11 : lw_okq (⟨"SpoonVotes$Sets", "letsPass", "(I)Z"⟩, 3) := ⟨⟨by decide +kernel, by decide +kernel⟩, List.mem_of_getElem? (i := 96) (by decide +kernel), List.mem_of_getElem? (i := 481) (by decide +kernel), List.mem_of_getElem? (i := 482) (by decide +kernel)⟩
theorem lw_p12 : lw_okq (⟨"SpoonVotes$Sets", "casesOf", "(II)I"⟩, 3) := ⟨⟨by decide +kernel, by decide +kernel⟩, List.mem_of_getElem? (i := 96) (by decide +kernel), List.mem_of_getElem? (i := 550) (by decide +kernel), List.mem_of_getElem? (i := 551) (by decide +kernel)⟩
theorem lw_p13 : lw_okq (⟨"SpoonVotesModel", "begins", "()V"⟩, 16) := ⟨⟨by decide +kernel, by decide +kernel⟩, List.mem_of_getElem? (i := 592) (by decide +kernel), List.mem_of_getElem? (i := 598) (by decide +kernel), List.mem_of_getElem? (i := 599) (by decide +kernel)⟩
theorem lw_p14 : lw_okq (⟨"SpoonVotesModel", "memberOf", "(IIII)V"⟩, 16) := ⟨⟨by decide +kernel, by decide +kernel⟩, List.mem_of_getElem? (i := 592) (by decide +kernel), List.mem_of_getElem? (i := 602) (by decide +kernel), List.mem_of_getElem? (i := 603) (by decide +kernel)⟩
theorem lw_p15 : lw_okq (⟨"SpoonVotesModel", "lays", "()V"⟩, 16) := ⟨⟨by decide +kernel, by decide +kernel⟩, List.mem_of_getElem? (i := 592) (by decide +kernel), List.mem_of_getElem? (i := 606) (by decide +kernel), List.mem_of_getElem? (i := 607) (by decide +kernel)⟩
def lw_privs_1 : List (MethodName × Nat) := [(⟨"SpoonVotes$Text", "readItem", "(I)I"⟩, 3), (⟨"SpoonVotes$Text", "at", "(I)C"⟩, 3), (⟨"SpoonVotes$Text", "figuresAt", "(I)I"⟩, 3), (⟨"SpoonVotes$Text", "isFigure", "(I)Z"⟩, 3), (⟨"SpoonVotes$Text", "figure", "(I)I"⟩, 3), (⟨"SpoonVotes$Text", "isTaken", "(CLSpoonVotes$Sitting;)Z"⟩, 3), (⟨"SpoonVotes", "isNoMember", "(I)Z"⟩, 7), (⟨"SpoonVotes$Sitting", "spoonful", "(II)I"⟩, 11), (⟨"SpoonVotes$Pile", "dropLowest", "()V"⟩, 2), (⟨"SpoonVotes$Sitting", "sum", "([I)I"⟩, 11), (⟨"SpoonVotes$Sets", "howMany", "()I"⟩, 3), (⟨"SpoonVotes$Sets", "letsPass", "(I)Z"⟩, 3), (⟨"SpoonVotes$Sets", "casesOf", "(II)I"⟩, 3), (⟨"SpoonVotesModel", "begins", "()V"⟩, 16), (⟨"SpoonVotesModel", "memberOf", "(IIII)V"⟩, 16), (⟨"SpoonVotesModel", "lays", "()V"⟩, 16)]
theorem lw_r1 : ∀ q ∈ lw_privs_1, lw_okq q := List.forall_mem_cons.mpr ⟨lw_p0, List.forall_mem_cons.mpr ⟨lw_p1, List.forall_mem_cons.mpr ⟨lw_p2, List.forall_mem_cons.mpr ⟨lw_p3, List.forall_mem_cons.mpr ⟨lw_p4, List.forall_mem_cons.mpr ⟨lw_p5, List.forall_mem_cons.mpr ⟨lw_p6, List.forall_mem_cons.mpr ⟨lw_p7, List.forall_mem_cons.mpr ⟨lw_p8, List.forall_mem_cons.mpr ⟨lw_p9, List.forall_mem_cons.mpr ⟨lw_p10, List.forall_mem_cons.mpr ⟨lw_p11, List.forall_mem_cons.mpr ⟨lw_p12, List.forall_mem_cons.mpr ⟨lw_p13, List.forall_mem_cons.mpr ⟨lw_p14, List.forall_mem_cons.mpr ⟨lw_p15, fun _ h => absurd h List.not_mem_nil⟩⟩⟩⟩⟩⟩⟩⟩⟩⟩⟩⟩⟩⟩⟩⟩
theorem lw_p16 : lw_okq (⟨"SpoonVotesModel", "readsAll", "()I"⟩, 16) := ⟨⟨by decide +kernel, by decide +kernel⟩, List.mem_of_getElem? (i := 592) (by decide +kernel), List.mem_of_getElem? (i := 674) (by decide +kernel), List.mem_of_getElem? (i := 675) (by decide +kernel)⟩
theorem lw_p17 : lw_okq (⟨"SpoonVotesModel", "readsItem", "(I)Z"⟩, 16) := ⟨⟨by decide +kernel, by decide +kernel⟩, List.mem_of_getElem? (i := 592) (by decide +kernel), List.mem_of_getElem? (i := 678) (by decide +kernel), List.mem_of_getElem? (i := 679) (by decide +kernel)⟩
theorem lw_p18 : lw_okq (⟨"SpoonVotesModel", "number", "(III)I"⟩, 16) := ⟨⟨by decide +kernel, by decide +kernel⟩, List.mem_of_getElem? (i := 592) (by decide +kernel), List.mem_of_getElem? (i := 682) (by decide +kernel), List.mem_of_getElem? (i := 683) (by decide +kernel)⟩
theorem lw_p19 : lw_okq (⟨"SpoonVotesModel", "letterAt", "(I)I"⟩, 16) := ⟨⟨by decide +kernel, by decide +kernel⟩, List.mem_of_getElem? (i := 592) (by decide +kernel), List.mem_of_getElem? (i := 686) (by decide +kernel), List.mem_of_getElem? (i := 687) (by decide +kernel)⟩
theorem lw_p20 : lw_okq (⟨"SpoonVotesModel", "isMember", "(I)Z"⟩, 16) := ⟨⟨by decide +kernel, by decide +kernel⟩, List.mem_of_getElem? (i := 592) (by decide +kernel), List.mem_of_getElem? (i := 701) (by decide +kernel), List.mem_of_getElem? (i := 702) (by decide +kernel)⟩
theorem lw_p21 : lw_okq (⟨"SpoonVotesModel", "wouldEat", "(I)I"⟩, 16) := ⟨⟨by decide +kernel, by decide +kernel⟩, List.mem_of_getElem? (i := 592) (by decide +kernel), List.mem_of_getElem? (i := 705) (by decide +kernel), List.mem_of_getElem? (i := 706) (by decide +kernel)⟩
theorem lw_p22 : lw_okq (⟨"SpoonVotesModel", "keeps", "()V"⟩, 16) := ⟨⟨by decide +kernel, by decide +kernel⟩, List.mem_of_getElem? (i := 592) (by decide +kernel), List.mem_of_getElem? (i := 713) (by decide +kernel), List.mem_of_getElem? (i := 714) (by decide +kernel)⟩
theorem lw_p23 : lw_okq (⟨"SpoonVotesModel", "all", "()I"⟩, 16) := ⟨⟨by decide +kernel, by decide +kernel⟩, List.mem_of_getElem? (i := 592) (by decide +kernel), List.mem_of_getElem? (i := 717) (by decide +kernel), List.mem_of_getElem? (i := 718) (by decide +kernel)⟩
theorem lw_p24 : lw_okq (⟨"SpoonVotesModel", "eats", "(I)I"⟩, 16) := ⟨⟨by decide +kernel, by decide +kernel⟩, List.mem_of_getElem? (i := 592) (by decide +kernel), List.mem_of_getElem? (i := 721) (by decide +kernel), List.mem_of_getElem? (i := 722) (by decide +kernel)⟩
theorem lw_p25 : lw_okq (⟨"SpoonVotesModel", "cools", "()V"⟩, 16) := ⟨⟨by decide +kernel, by decide +kernel⟩, List.mem_of_getElem? (i := 592) (by decide +kernel), List.mem_of_getElem? (i := 725) (by decide +kernel), List.mem_of_getElem? (i := 726) (by decide +kernel)⟩
theorem lw_p26 : lw_okq (⟨"SpoonVotesModel", "cooks", "(I)V"⟩, 16) := ⟨⟨by decide +kernel, by decide +kernel⟩, List.mem_of_getElem? (i := 592) (by decide +kernel), List.mem_of_getElem? (i := 737) (by decide +kernel), List.mem_of_getElem? (i := 738) (by decide +kernel)⟩
theorem lw_p27 : lw_okq (⟨"SpoonVotesModel", "swaps", "(II)V"⟩, 16) := ⟨⟨by decide +kernel, by decide +kernel⟩, List.mem_of_getElem? (i := 592) (by decide +kernel), List.mem_of_getElem? (i := 749) (by decide +kernel), List.mem_of_getElem? (i := 750) (by decide +kernel)⟩
theorem lw_p28 : lw_okq (⟨"SpoonVotesModel", "starves", "()V"⟩, 16) := ⟨⟨by decide +kernel, by decide +kernel⟩, List.mem_of_getElem? (i := 592) (by decide +kernel), List.mem_of_getElem? (i := 757) (by decide +kernel), List.mem_of_getElem? (i := 758) (by decide +kernel)⟩
theorem lw_p29 : lw_okq (⟨"SpoonVotesModel", "sumOf", "(I)I"⟩, 16) := ⟨⟨by decide +kernel, by decide +kernel⟩, List.mem_of_getElem? (i := 592) (by decide +kernel), List.mem_of_getElem? (i := 761) (by decide +kernel), List.mem_of_getElem? (i := 762) (by decide +kernel)⟩
theorem lw_p30 : lw_okq (⟨"SpoonVotesModel", "passesBy", "(I)I"⟩, 16) := ⟨⟨by decide +kernel, by decide +kernel⟩, List.mem_of_getElem? (i := 592) (by decide +kernel), List.mem_of_getElem? (i := 773) (by decide +kernel), List.mem_of_getElem? (i := 774) (by decide +kernel)⟩
theorem lw_p31 : lw_okq (⟨"SpoonVotesModel", "holds", "()V"⟩, 16) := ⟨⟨by decide +kernel, by decide +kernel⟩, List.mem_of_getElem? (i := 592) (by decide +kernel), List.mem_of_getElem? (i := 781) (by decide +kernel), List.mem_of_getElem? (i := 782) (by decide +kernel)⟩
def lw_privs_2 : List (MethodName × Nat) := [(⟨"SpoonVotesModel", "readsAll", "()I"⟩, 16), (⟨"SpoonVotesModel", "readsItem", "(I)Z"⟩, 16), (⟨"SpoonVotesModel", "number", "(III)I"⟩, 16), (⟨"SpoonVotesModel", "letterAt", "(I)I"⟩, 16), (⟨"SpoonVotesModel", "isMember", "(I)Z"⟩, 16), (⟨"SpoonVotesModel", "wouldEat", "(I)I"⟩, 16), (⟨"SpoonVotesModel", "keeps", "()V"⟩, 16), (⟨"SpoonVotesModel", "all", "()I"⟩, 16), (⟨"SpoonVotesModel", "eats", "(I)I"⟩, 16), (⟨"SpoonVotesModel", "cools", "()V"⟩, 16), (⟨"SpoonVotesModel", "cooks", "(I)V"⟩, 16), (⟨"SpoonVotesModel", "swaps", "(II)V"⟩, 16), (⟨"SpoonVotesModel", "starves", "()V"⟩, 16), (⟨"SpoonVotesModel", "sumOf", "(I)I"⟩, 16), (⟨"SpoonVotesModel", "passesBy", "(I)I"⟩, 16), (⟨"SpoonVotesModel", "holds", "()V"⟩, 16)]
theorem lw_r2 : ∀ q ∈ lw_privs_2, lw_okq q := List.forall_mem_cons.mpr ⟨lw_p16, List.forall_mem_cons.mpr ⟨lw_p17, List.forall_mem_cons.mpr ⟨lw_p18, List.forall_mem_cons.mpr ⟨lw_p19, List.forall_mem_cons.mpr ⟨lw_p20, List.forall_mem_cons.mpr ⟨lw_p21, List.forall_mem_cons.mpr ⟨lw_p22, List.forall_mem_cons.mpr ⟨lw_p23, List.forall_mem_cons.mpr ⟨lw_p24, List.forall_mem_cons.mpr ⟨lw_p25, List.forall_mem_cons.mpr ⟨lw_p26, List.forall_mem_cons.mpr ⟨lw_p27, List.forall_mem_cons.mpr ⟨lw_p28, List.forall_mem_cons.mpr ⟨lw_p29, List.forall_mem_cons.mpr ⟨lw_p30, List.forall_mem_cons.mpr ⟨lw_p31, fun _ h => absurd h List.not_mem_nil⟩⟩⟩⟩⟩⟩⟩⟩⟩⟩⟩⟩⟩⟩⟩⟩
theorem lw_p32 : lw_okq (⟨"SpoonVotesModel", "lets", "()V"⟩, 16) := ⟨⟨by decide +kernel, by decide +kernel⟩, List.mem_of_getElem? (i := 592) (by decide +kernel), List.mem_of_getElem? (i := 785) (by decide +kernel), List.mem_of_getElem? (i := 786) (by decide +kernel)⟩
theorem lw_p33 : lw_okq (⟨"SpoonVotesModel", "isPassed", "(I)Z"⟩, 16) := ⟨⟨by decide +kernel, by decide +kernel⟩, List.mem_of_getElem? (i := 592) (by decide +kernel), List.mem_of_getElem? (i := 793) (by decide +kernel), List.mem_of_getElem? (i := 794) (by decide +kernel)⟩
theorem lw_p34 : lw_okq (⟨"SpoonVotesModel", "turn", "(I)V"⟩, 16) := ⟨⟨by decide +kernel, by decide +kernel⟩, List.mem_of_getElem? (i := 592) (by decide +kernel), List.mem_of_getElem? (i := 857) (by decide +kernel), List.mem_of_getElem? (i := 858) (by decide +kernel)⟩
def lw_privs_3 : List (MethodName × Nat) := [(⟨"SpoonVotesModel", "lets", "()V"⟩, 16), (⟨"SpoonVotesModel", "isPassed", "(I)Z"⟩, 16), (⟨"SpoonVotesModel", "turn", "(I)V"⟩, 16)]
theorem lw_r3 : ∀ q ∈ lw_privs_3, lw_okq q := List.forall_mem_cons.mpr ⟨lw_p32, List.forall_mem_cons.mpr ⟨lw_p33, List.forall_mem_cons.mpr ⟨lw_p34, fun _ h => absurd h List.not_mem_nil⟩⟩⟩
def lw_privs : List (MethodName × Nat) := lw_privs_1 ++ (lw_privs_2 ++ (lw_privs_3))
def lw_tbl : List Cond := k2_sels lw_privs ++ tables_1
theorem lw_privs_ok : ∀ q ∈ lw_privs, lw_okq q := by
  show ∀ q ∈ lw_privs_1 ++ (lw_privs_2 ++ (lw_privs_3)), lw_okq q
  exact List.forall_mem_append.mpr ⟨lw_r1, List.forall_mem_append.mpr ⟨lw_r2, lw_r3⟩⟩
-- ===== end of PART A; then your names; then what follows =====
/-! ===== BEGIN words of one list among another's, by their places ===== -/
/-! ===== END ===== -/

/-! ===== BEGIN printed: names, fields, word lists, decode rows ===== -/
def RX0 : String := "SpoonVotes$Pile"
def TX0 : u_T := fun k => match k with
  | 0 => ("SpoonVotes$Pile", "sittings", "[LSpoonVotes$Sitting;", true)
  | _ => ("SpoonVotes$Pile", "many", "I", false)
def tyX0 : Nat → FieldType := fun k => match k with
  | 0 => .array (.object "SpoonVotes$Sitting")
  | _ => .int
abbrev wsX00 : List Cond := u_ws RX0 TX0 2
theorem nmX0 : ∀ a, a < 2 → ∀ b, b < 2 → a ≠ b → (TX0 a).2.1 ≠ (TX0 b).2.1 := by decide +kernel
theorem tyX0_ok : ∀ k, k < 2 → parseFieldDescriptor (TX0 k).2.2.1 = some (tyX0 k) := by decide +kernel
abbrev cX0_init : ByteArray := prog_2_method_1_code
def yX0_init : MethodName := ⟨RX0, "<init>", "(I)V"⟩
abbrev cX0_clear : ByteArray := prog_2_method_2_code
def yX0_clear : MethodName := ⟨RX0, "clear", "()V"⟩
abbrev cX0_put : ByteArray := prog_2_method_3_code
def yX0_put : MethodName := ⟨RX0, "put", "(LSpoonVotes$Sitting;)V"⟩
abbrev cX0_dropLowest : ByteArray := prog_2_method_4_code
def yX0_dropLowest : MethodName := ⟨RX0, "dropLowest", "()V"⟩
abbrev cX0_takeLast : ByteArray := prog_2_method_5_code
def yX0_takeLast : MethodName := ⟨RX0, "takeLast", "(LSpoonVotes$Sitting;)Z"⟩
def RX1 : String := "SpoonVotes$Sets"
def TX1 : u_T := fun k => match k with
  | 0 => ("SpoonVotes$Sets", "reach", "[I", true)
  | 1 => ("SpoonVotes$Sets", "members", "I", false)
  | _ => ("SpoonVotes$Sets", "amount", "I", false)
def tyX1 : Nat → FieldType := fun k => match k with
  | 0 => .array .int
  | 1 => .int
  | _ => .int
abbrev wsX10 : List Cond := u_ws RX1 TX1 3
theorem nmX1 : ∀ a, a < 3 → ∀ b, b < 3 → a ≠ b → (TX1 a).2.1 ≠ (TX1 b).2.1 := by decide +kernel
theorem tyX1_ok : ∀ k, k < 3 → parseFieldDescriptor (TX1 k).2.2.1 = some (tyX1 k) := by decide +kernel
abbrev cX1_init : ByteArray := prog_3_method_1_code
def yX1_init : MethodName := ⟨RX1, "<init>", "()V"⟩
abbrev cX1_measure : ByteArray := prog_3_method_2_code
def yX1_measure : MethodName := ⟨RX1, "measure", "(LSpoonVotes$Sitting;)V"⟩
abbrev cX1_howMany : ByteArray := prog_3_method_3_code
def yX1_howMany : MethodName := ⟨RX1, "howMany", "()I"⟩
abbrev cX1_letsPass : ByteArray := prog_3_method_4_code
def yX1_letsPass : MethodName := ⟨RX1, "letsPass", "(I)Z"⟩
abbrev cX1_isIn : ByteArray := prog_3_method_5_code
def yX1_isIn : MethodName := ⟨RX1, "isIn", "(II)Z"⟩
abbrev cX1_fewest : ByteArray := prog_3_method_6_code
def yX1_fewest : MethodName := ⟨RX1, "fewest", "()I"⟩
abbrev cX1_orders : ByteArray := prog_3_method_7_code
def yX1_orders : MethodName := ⟨RX1, "orders", "()I"⟩
abbrev cX1_ordersDecidedBy : ByteArray := prog_3_method_8_code
def yX1_ordersDecidedBy : MethodName := ⟨RX1, "ordersDecidedBy", "(I)I"⟩
abbrev cX1_factorial : ByteArray := prog_3_method_9_code
def yX1_factorial : MethodName := ⟨RX1, "factorial", "(I)I"⟩
abbrev cX1_cases : ByteArray := prog_3_method_10_code
def yX1_cases : MethodName := ⟨RX1, "cases", "()I"⟩
abbrev cX1_passingCasesBy : ByteArray := prog_3_method_11_code
def yX1_passingCasesBy : MethodName := ⟨RX1, "passingCasesBy", "(I)I"⟩
abbrev cX1_casesOf : ByteArray := prog_3_method_12_code
def yX1_casesOf : MethodName := ⟨RX1, "casesOf", "(II)I"⟩
def RX2 : String := "SpoonVotes$Sightings"
def TX2 : u_T := fun k => match k with
  | 0 => ("SpoonVotes$Sightings", "who", "[I", true)
  | 1 => ("SpoonVotes$Sightings", "much", "[I", true)
  | _ => ("SpoonVotes$Sightings", "many", "I", false)
def tyX2 : Nat → FieldType := fun k => match k with
  | 0 => .array .int
  | 1 => .array .int
  | _ => .int
abbrev wsX20 : List Cond := u_ws RX2 TX2 3
theorem nmX2 : ∀ a, a < 3 → ∀ b, b < 3 → a ≠ b → (TX2 a).2.1 ≠ (TX2 b).2.1 := by decide +kernel
theorem tyX2_ok : ∀ k, k < 3 → parseFieldDescriptor (TX2 k).2.2.1 = some (tyX2 k) := by decide +kernel
abbrev cX2_init : ByteArray := prog_4_method_1_code
def yX2_init : MethodName := ⟨RX2, "<init>", "()V"⟩
abbrev cX2_clear : ByteArray := prog_4_method_2_code
def yX2_clear : MethodName := ⟨RX2, "clear", "()V"⟩
abbrev cX2_add : ByteArray := prog_4_method_3_code
def yX2_add : MethodName := ⟨RX2, "add", "(II)Z"⟩
abbrev cX2_allSoBetween : ByteArray := prog_4_method_4_code
def yX2_allSoBetween : MethodName := ⟨RX2, "allSoBetween", "(LSpoonVotes$Sitting;LSpoonVotes$Sitting;)Z"⟩
def RX3 : String := "SpoonVotes$Sitting"
def TX3 : u_T := fun k => match k with
  | 0 => ("SpoonVotes$Sitting", "kind", "[I", true)
  | 1 => ("SpoonVotes$Sitting", "spoon", "[I", true)
  | 2 => ("SpoonVotes$Sitting", "hunger", "[I", true)
  | 3 => ("SpoonVotes$Sitting", "bears", "[I", true)
  | 4 => ("SpoonVotes$Sitting", "eaten", "[I", true)
  | 5 => ("SpoonVotes$Sitting", "members", "I", false)
  | 6 => ("SpoonVotes$Sitting", "amount", "I", false)
  | 7 => ("SpoonVotes$Sitting", "heat", "I", false)
  | 8 => ("SpoonVotes$Sitting", "salt", "I", false)
  | 9 => ("SpoonVotes$Sitting", "rounds", "I", false)
  | _ => ("SpoonVotes$Sitting", "fastHunger", "I", false)
def tyX3 : Nat → FieldType := fun k => match k with
  | 0 => .array .int
  | 1 => .array .int
  | 2 => .array .int
  | 3 => .array .int
  | 4 => .array .int
  | 5 => .int
  | 6 => .int
  | 7 => .int
  | 8 => .int
  | 9 => .int
  | _ => .int
abbrev wsX30 : List Cond := u_ws RX3 TX3 11
theorem nmX3 : ∀ a, a < 11 → ∀ b, b < 11 → a ≠ b → (TX3 a).2.1 ≠ (TX3 b).2.1 := by decide +kernel
theorem tyX3_ok : ∀ k, k < 11 → parseFieldDescriptor (TX3 k).2.2.1 = some (tyX3 k) := by decide +kernel
abbrev cX3_init : ByteArray := prog_5_method_1_code
def yX3_init : MethodName := ⟨RX3, "<init>", "()V"⟩
abbrev cX3_clear : ByteArray := prog_5_method_2_code
def yX3_clear : MethodName := ⟨RX3, "clear", "()V"⟩
abbrev cX3_takeMember : ByteArray := prog_5_method_3_code
def yX3_takeMember : MethodName := ⟨RX3, "takeMember", "(IIII)Z"⟩
abbrev cX3_takePot : ByteArray := prog_5_method_4_code
def yX3_takePot : MethodName := ⟨RX3, "takePot", "(III)Z"⟩
abbrev cX3_takeRounds : ByteArray := prog_5_method_5_code
def yX3_takeRounds : MethodName := ⟨RX3, "takeRounds", "(I)Z"⟩
abbrev cX3_takeFastHunger : ByteArray := prog_5_method_6_code
def yX3_takeFastHunger : MethodName := ⟨RX3, "takeFastHunger", "(I)Z"⟩
abbrev cX3_takeOver : ByteArray := prog_5_method_7_code
def yX3_takeOver : MethodName := ⟨RX3, "takeOver", "(LSpoonVotes$Sitting;)V"⟩
abbrev cX3_share : ByteArray := prog_5_method_8_code
def yX3_share : MethodName := ⟨RX3, "share", "(I)I"⟩
abbrev cX3_spoonful : ByteArray := prog_5_method_9_code
def yX3_spoonful : MethodName := ⟨RX3, "spoonful", "(II)I"⟩
abbrev cX3_hottestFor : ByteArray := prog_5_method_10_code
def yX3_hottestFor : MethodName := ⟨RX3, "hottestFor", "(I)I"⟩
abbrev cX3_eatRound : ByteArray := prog_5_method_11_code
def yX3_eatRound : MethodName := ⟨RX3, "eatRound", "()I"⟩
abbrev cX3_eatRounds : ByteArray := prog_5_method_12_code
def yX3_eatRounds : MethodName := ⟨RX3, "eatRounds", "(I)I"⟩
abbrev cX3_roundsUntilEmpty : ByteArray := prog_5_method_13_code
def yX3_roundsUntilEmpty : MethodName := ⟨RX3, "roundsUntilEmpty", "()I"⟩
abbrev cX3_reach : ByteArray := prog_5_method_14_code
def yX3_reach : MethodName := ⟨RX3, "reach", "(I)I"⟩
abbrev cX3_reachOfAll : ByteArray := prog_5_method_15_code
def yX3_reachOfAll : MethodName := ⟨RX3, "reachOfAll", "()I"⟩
abbrev cX3_wouldPass : ByteArray := prog_5_method_16_code
def yX3_wouldPass : MethodName := ⟨RX3, "wouldPass", "()Z"⟩
abbrev cX3_putSalt : ByteArray := prog_5_method_17_code
def yX3_putSalt : MethodName := ⟨RX3, "putSalt", "()V"⟩
abbrev cX3_cookTo : ByteArray := prog_5_method_18_code
def yX3_cookTo : MethodName := ⟨RX3, "cookTo", "(I)V"⟩
abbrev cX3_waitOnce : ByteArray := prog_5_method_19_code
def yX3_waitOnce : MethodName := ⟨RX3, "waitOnce", "()V"⟩
abbrev cX3_exchangeSpoons : ByteArray := prog_5_method_20_code
def yX3_exchangeSpoons : MethodName := ⟨RX3, "exchangeSpoons", "(II)V"⟩
abbrev cX3_fastDay : ByteArray := prog_5_method_21_code
def yX3_fastDay : MethodName := ⟨RX3, "fastDay", "()V"⟩
abbrev cX3_liveBy : ByteArray := prog_5_method_22_code
def yX3_liveBy : MethodName := ⟨RX3, "liveBy", "(I)V"⟩
abbrev cX3_hungerOfAll : ByteArray := prog_5_method_23_code
def yX3_hungerOfAll : MethodName := ⟨RX3, "hungerOfAll", "()I"⟩
abbrev cX3_eatenInAll : ByteArray := prog_5_method_24_code
def yX3_eatenInAll : MethodName := ⟨RX3, "eatenInAll", "()I"⟩
abbrev cX3_sum : ByteArray := prog_5_method_25_code
def yX3_sum : MethodName := ⟨RX3, "sum", "([I)I"⟩
def RX4 : String := "SpoonVotes$Text"
def TX4 : u_T := fun k => match k with
  | 0 => ("SpoonVotes$Text", "letters", "[C", true)
  | 1 => ("SpoonVotes$Text", "numbers", "[I", true)
  | _ => ("SpoonVotes$Text", "length", "I", false)
def tyX4 : Nat → FieldType := fun k => match k with
  | 0 => .array .char
  | 1 => .array .int
  | _ => .int
abbrev wsX40 : List Cond := u_ws RX4 TX4 3
theorem nmX4 : ∀ a, a < 3 → ∀ b, b < 3 → a ≠ b → (TX4 a).2.1 ≠ (TX4 b).2.1 := by decide +kernel
theorem tyX4_ok : ∀ k, k < 3 → parseFieldDescriptor (TX4 k).2.2.1 = some (tyX4 k) := by decide +kernel
abbrev cX4_init : ByteArray := prog_6_method_1_code
def yX4_init : MethodName := ⟨RX4, "<init>", "()V"⟩
abbrev cX4_clear : ByteArray := prog_6_method_2_code
def yX4_clear : MethodName := ⟨RX4, "clear", "()V"⟩
abbrev cX4_append : ByteArray := prog_6_method_3_code
def yX4_append : MethodName := ⟨RX4, "append", "(C)Z"⟩
abbrev cX4_layOut : ByteArray := prog_6_method_4_code
def yX4_layOut : MethodName := ⟨RX4, "layOut", "(LSpoonVotes$Sitting;)I"⟩
abbrev cX4_readItem : ByteArray := prog_6_method_5_code
def yX4_readItem : MethodName := ⟨RX4, "readItem", "(I)I"⟩
abbrev cX4_isTaken : ByteArray := prog_6_method_6_code
def yX4_isTaken : MethodName := ⟨RX4, "isTaken", "(CLSpoonVotes$Sitting;)Z"⟩
abbrev cX4_numbersBehind : ByteArray := prog_6_method_7_code
def yX4_numbersBehind : MethodName := ⟨RX4, "numbersBehind", "(C)I"⟩
abbrev cX4_figuresAt : ByteArray := prog_6_method_8_code
def yX4_figuresAt : MethodName := ⟨RX4, "figuresAt", "(I)I"⟩
abbrev cX4_isFigure : ByteArray := prog_6_method_9_code
def yX4_isFigure : MethodName := ⟨RX4, "isFigure", "(I)Z"⟩
abbrev cX4_figure : ByteArray := prog_6_method_10_code
def yX4_figure : MethodName := ⟨RX4, "figure", "(I)I"⟩
abbrev cX4_at : ByteArray := prog_6_method_11_code
def yX4_at : MethodName := ⟨RX4, "at", "(I)C"⟩
def RX5 : String := "SpoonVotes"
def TX5 : u_T := fun k => match k with
  | 0 => ("SpoonVotes", "text", "LSpoonVotes$Text;", true)
  | 1 => ("SpoonVotes", "now", "LSpoonVotes$Sitting;", true)
  | 2 => ("SpoonVotes", "trial", "LSpoonVotes$Sitting;", true)
  | 3 => ("SpoonVotes", "sets", "LSpoonVotes$Sets;", true)
  | 4 => ("SpoonVotes", "sightings", "LSpoonVotes$Sightings;", true)
  | 5 => ("SpoonVotes", "undoable", "LSpoonVotes$Pile;", true)
  | _ => ("SpoonVotes", "kept", "LSpoonVotes$Pile;", true)
def tyX5 : Nat → FieldType := fun k => match k with
  | 0 => .object "SpoonVotes$Text"
  | 1 => .object "SpoonVotes$Sitting"
  | 2 => .object "SpoonVotes$Sitting"
  | 3 => .object "SpoonVotes$Sets"
  | 4 => .object "SpoonVotes$Sightings"
  | 5 => .object "SpoonVotes$Pile"
  | _ => .object "SpoonVotes$Pile"
abbrev wsX50 : List Cond := u_ws RX5 TX5 7
theorem nmX5 : ∀ a, a < 7 → ∀ b, b < 7 → a ≠ b → (TX5 a).2.1 ≠ (TX5 b).2.1 := by decide +kernel
theorem tyX5_ok : ∀ k, k < 7 → parseFieldDescriptor (TX5 k).2.2.1 = some (tyX5 k) := by decide +kernel
abbrev cX5_init : ByteArray := prog_1_method_1_code
def yX5_init : MethodName := ⟨RX5, "<init>", "()V"⟩
abbrev cX5_write : ByteArray := prog_1_method_2_code
def yX5_write : MethodName := ⟨RX5, "write", "(I)I"⟩
abbrev cX5_wipe : ByteArray := prog_1_method_3_code
def yX5_wipe : MethodName := ⟨RX5, "wipe", "()I"⟩
abbrev cX5_fault : ByteArray := prog_1_method_4_code
def yX5_fault : MethodName := ⟨RX5, "fault", "()I"⟩
abbrev cX5_lay : ByteArray := prog_1_method_5_code
def yX5_lay : MethodName := ⟨RX5, "lay", "()I"⟩
abbrev cX5_member : ByteArray := prog_1_method_6_code
def yX5_member : MethodName := ⟨RX5, "member", "(II)I"⟩
abbrev cX5_eat : ByteArray := prog_1_method_7_code
def yX5_eat : MethodName := ⟨RX5, "eat", "(I)I"⟩
abbrev cX5_salt : ByteArray := prog_1_method_8_code
def yX5_salt : MethodName := ⟨RX5, "salt", "()I"⟩
abbrev cX5_cook : ByteArray := prog_1_method_9_code
def yX5_cook : MethodName := ⟨RX5, "cook", "(I)I"⟩
abbrev cX5_cool : ByteArray := prog_1_method_10_code
def yX5_cool : MethodName := ⟨RX5, "cool", "()I"⟩
abbrev cX5_trade : ByteArray := prog_1_method_11_code
def yX5_trade : MethodName := ⟨RX5, "trade", "(II)I"⟩
abbrev cX5_fast : ByteArray := prog_1_method_12_code
def yX5_fast : MethodName := ⟨RX5, "fast", "()I"⟩
abbrev cX5_undo : ByteArray := prog_1_method_13_code
def yX5_undo : MethodName := ⟨RX5, "undo", "()I"⟩
abbrev cX5_passes : ByteArray := prog_1_method_14_code
def yX5_passes : MethodName := ⟨RX5, "passes", "()I"⟩
abbrev cX5_left : ByteArray := prog_1_method_15_code
def yX5_left : MethodName := ⟨RX5, "left", "(I)I"⟩
abbrev cX5_scraper : ByteArray := prog_1_method_16_code
def yX5_scraper : MethodName := ⟨RX5, "scraper", "()I"⟩
abbrev cX5_spoil : ByteArray := prog_1_method_17_code
def yX5_spoil : MethodName := ⟨RX5, "spoil", "()I"⟩
abbrev cX5_waits : ByteArray := prog_1_method_18_code
def yX5_waits : MethodName := ⟨RX5, "waits", "()I"⟩
abbrev cX5_most : ByteArray := prog_1_method_19_code
def yX5_most : MethodName := ⟨RX5, "most", "()I"⟩
abbrev cX5_fasts : ByteArray := prog_1_method_20_code
def yX5_fasts : MethodName := ⟨RX5, "fasts", "()I"⟩
abbrev cX5_cabal : ByteArray := prog_1_method_21_code
def yX5_cabal : MethodName := ⟨RX5, "cabal", "(I)I"⟩
abbrev cX5_trades : ByteArray := prog_1_method_22_code
def yX5_trades : MethodName := ⟨RX5, "trades", "()I"⟩
abbrev cX5_power : ByteArray := prog_1_method_23_code
def yX5_power : MethodName := ⟨RX5, "power", "(II)I"⟩
abbrev cX5_seen : ByteArray := prog_1_method_24_code
def yX5_seen : MethodName := ⟨RX5, "seen", "(II)I"⟩
abbrev cX5_forget : ByteArray := prog_1_method_25_code
def yX5_forget : MethodName := ⟨RX5, "forget", "()I"⟩
abbrev cX5_may : ByteArray := prog_1_method_26_code
def yX5_may : MethodName := ⟨RX5, "may", "(I)I"⟩
abbrev cX5_likely : ByteArray := prog_1_method_27_code
def yX5_likely : MethodName := ⟨RX5, "likely", "(II)I"⟩
abbrev cX5_century : ByteArray := prog_1_method_28_code
def yX5_century : MethodName := ⟨RX5, "century", "(III)I"⟩
abbrev cX5_keep : ByteArray := prog_1_method_29_code
def yX5_keep : MethodName := ⟨RX5, "keep", "()I"⟩
abbrev cX5_back : ByteArray := prog_1_method_30_code
def yX5_back : MethodName := ⟨RX5, "back", "()I"⟩
abbrev cX5_count : ByteArray := prog_1_method_31_code
def yX5_count : MethodName := ⟨RX5, "count", "(I)I"⟩
abbrev cX5_isNoMember : ByteArray := prog_1_method_32_code
def yX5_isNoMember : MethodName := ⟨RX5, "isNoMember", "(I)Z"⟩
abbrev cX5_isOutside : ByteArray := prog_1_method_33_code
def yX5_isOutside : MethodName := ⟨RX5, "isOutside", "(III)Z"⟩
abbrev cX5_draw : ByteArray := prog_1_method_34_code
def yX5_draw : MethodName := ⟨RX5, "draw", "(II)I"⟩
abbrev cX5_inLowestTerms : ByteArray := prog_1_method_35_code
def yX5_inLowestTerms : MethodName := ⟨RX5, "inLowestTerms", "(III)I"⟩
abbrev cX5_commonDivisor : ByteArray := prog_1_method_36_code
def yX5_commonDivisor : MethodName := ⟨RX5, "commonDivisor", "(II)I"⟩
def RX6 : String := "SpoonVotesModel"
def TX6 : u_T := fun k => match k with
  | 0 => ("SpoonVotesModel", "text", "[I", true)
  | 1 => ("SpoonVotesModel", "typed", "I", false)
  | 2 => ("SpoonVotesModel", "told", "[I", true)
  | 3 => ("SpoonVotesModel", "draft", "[I", true)
  | 4 => ("SpoonVotesModel", "begun", "[I", true)
  | 5 => ("SpoonVotesModel", "s", "[I", true)
  | 6 => ("SpoonVotesModel", "past", "[I", true)
  | 7 => ("SpoonVotesModel", "known", "I", false)
  | 8 => ("SpoonVotesModel", "images", "[I", true)
  | 9 => ("SpoonVotesModel", "kept", "I", false)
  | 10 => ("SpoonVotesModel", "notes", "[I", true)
  | 11 => ("SpoonVotesModel", "noted", "I", false)
  | 12 => ("SpoonVotesModel", "at", "I", false)
  | 13 => ("SpoonVotesModel", "last", "I", false)
  | 14 => ("SpoonVotesModel", "held", "[I", true)
  | _ => ("SpoonVotesModel", "tried", "[I", true)
def tyX6 : Nat → FieldType := fun k => match k with
  | 0 => .array .int
  | 1 => .int
  | 2 => .array .int
  | 3 => .array .int
  | 4 => .array .int
  | 5 => .array .int
  | 6 => .array .int
  | 7 => .int
  | 8 => .array .int
  | 9 => .int
  | 10 => .array .int
  | 11 => .int
  | 12 => .int
  | 13 => .int
  | 14 => .array .int
  | _ => .array .int
abbrev wsX60 : List Cond := u_ws RX6 TX6 16
theorem nmX6 : ∀ a, a < 16 → ∀ b, b < 16 → a ≠ b → (TX6 a).2.1 ≠ (TX6 b).2.1 := by decide +kernel
theorem tyX6_ok : ∀ k, k < 16 → parseFieldDescriptor (TX6 k).2.2.1 = some (tyX6 k) := by decide +kernel
abbrev cX6_init : ByteArray := prog_8_method_1_code
def yX6_init : MethodName := ⟨RX6, "<init>", "()V"⟩
abbrev cX6_in : ByteArray := prog_8_method_3_code
def yX6_in : MethodName := ⟨RX6, "in", "(III)Z"⟩
abbrev cX6_isMember : ByteArray := prog_8_method_4_code
def yX6_isMember : MethodName := ⟨RX6, "isMember", "(I)Z"⟩
abbrev cX6_all : ByteArray := prog_8_method_5_code
def yX6_all : MethodName := ⟨RX6, "all", "()I"⟩
abbrev cX6_ones : ByteArray := prog_8_method_6_code
def yX6_ones : MethodName := ⟨RX6, "ones", "(I)I"⟩
abbrev cX6_write : ByteArray := prog_8_method_7_code
def yX6_write : MethodName := ⟨RX6, "write", "(I)I"⟩
abbrev cX6_wipe : ByteArray := prog_8_method_8_code
def yX6_wipe : MethodName := ⟨RX6, "wipe", "()I"⟩
abbrev cX6_letterAt : ByteArray := prog_8_method_9_code
def yX6_letterAt : MethodName := ⟨RX6, "letterAt", "(I)I"⟩
abbrev cX6_isFigure : ByteArray := prog_8_method_10_code
def yX6_isFigure : MethodName := ⟨RX6, "isFigure", "(I)Z"⟩
abbrev cX6_number : ByteArray := prog_8_method_11_code
def yX6_number : MethodName := ⟨RX6, "number", "(III)I"⟩
abbrev cX6_begins : ByteArray := prog_8_method_12_code
def yX6_begins : MethodName := ⟨RX6, "begins", "()V"⟩
abbrev cX6_memberOf : ByteArray := prog_8_method_13_code
def yX6_memberOf : MethodName := ⟨RX6, "memberOf", "(IIII)V"⟩
abbrev cX6_readsItem : ByteArray := prog_8_method_14_code
def yX6_readsItem : MethodName := ⟨RX6, "readsItem", "(I)Z"⟩
abbrev cX6_readsAll : ByteArray := prog_8_method_15_code
def yX6_readsAll : MethodName := ⟨RX6, "readsAll", "()I"⟩
abbrev cX6_fault : ByteArray := prog_8_method_16_code
def yX6_fault : MethodName := ⟨RX6, "fault", "()I"⟩
abbrev cX6_lays : ByteArray := prog_8_method_17_code
def yX6_lays : MethodName := ⟨RX6, "lays", "()V"⟩
abbrev cX6_lay : ByteArray := prog_8_method_18_code
def yX6_lay : MethodName := ⟨RX6, "lay", "()I"⟩
abbrev cX6_wouldEat : ByteArray := prog_8_method_19_code
def yX6_wouldEat : MethodName := ⟨RX6, "wouldEat", "(I)I"⟩
abbrev cX6_member : ByteArray := prog_8_method_20_code
def yX6_member : MethodName := ⟨RX6, "member", "(II)I"⟩
abbrev cX6_keeps : ByteArray := prog_8_method_21_code
def yX6_keeps : MethodName := ⟨RX6, "keeps", "()V"⟩
abbrev cX6_cools : ByteArray := prog_8_method_22_code
def yX6_cools : MethodName := ⟨RX6, "cools", "()V"⟩
abbrev cX6_eats : ByteArray := prog_8_method_23_code
def yX6_eats : MethodName := ⟨RX6, "eats", "(I)I"⟩
abbrev cX6_eat : ByteArray := prog_8_method_24_code
def yX6_eat : MethodName := ⟨RX6, "eat", "(I)I"⟩
abbrev cX6_salt : ByteArray := prog_8_method_25_code
def yX6_salt : MethodName := ⟨RX6, "salt", "()I"⟩
abbrev cX6_cooks : ByteArray := prog_8_method_26_code
def yX6_cooks : MethodName := ⟨RX6, "cooks", "(I)V"⟩
abbrev cX6_cook : ByteArray := prog_8_method_27_code
def yX6_cook : MethodName := ⟨RX6, "cook", "(I)I"⟩
abbrev cX6_cool : ByteArray := prog_8_method_28_code
def yX6_cool : MethodName := ⟨RX6, "cool", "()I"⟩
abbrev cX6_swaps : ByteArray := prog_8_method_29_code
def yX6_swaps : MethodName := ⟨RX6, "swaps", "(II)V"⟩
abbrev cX6_trade : ByteArray := prog_8_method_30_code
def yX6_trade : MethodName := ⟨RX6, "trade", "(II)I"⟩
abbrev cX6_sumOf : ByteArray := prog_8_method_31_code
def yX6_sumOf : MethodName := ⟨RX6, "sumOf", "(I)I"⟩
abbrev cX6_starves : ByteArray := prog_8_method_32_code
def yX6_starves : MethodName := ⟨RX6, "starves", "()V"⟩
abbrev cX6_fast : ByteArray := prog_8_method_33_code
def yX6_fast : MethodName := ⟨RX6, "fast", "()I"⟩
abbrev cX6_undo : ByteArray := prog_8_method_34_code
def yX6_undo : MethodName := ⟨RX6, "undo", "()I"⟩
abbrev cX6_holds : ByteArray := prog_8_method_35_code
def yX6_holds : MethodName := ⟨RX6, "holds", "()V"⟩
abbrev cX6_lets : ByteArray := prog_8_method_36_code
def yX6_lets : MethodName := ⟨RX6, "lets", "()V"⟩
abbrev cX6_passesBy : ByteArray := prog_8_method_37_code
def yX6_passesBy : MethodName := ⟨RX6, "passesBy", "(I)I"⟩
abbrev cX6_isPassed : ByteArray := prog_8_method_38_code
def yX6_isPassed : MethodName := ⟨RX6, "isPassed", "(I)Z"⟩
abbrev cX6_passes : ByteArray := prog_8_method_39_code
def yX6_passes : MethodName := ⟨RX6, "passes", "()I"⟩
abbrev cX6_left : ByteArray := prog_8_method_40_code
def yX6_left : MethodName := ⟨RX6, "left", "(I)I"⟩
abbrev cX6_scraper : ByteArray := prog_8_method_41_code
def yX6_scraper : MethodName := ⟨RX6, "scraper", "()I"⟩
abbrev cX6_spoil : ByteArray := prog_8_method_42_code
def yX6_spoil : MethodName := ⟨RX6, "spoil", "()I"⟩
abbrev cX6_waits : ByteArray := prog_8_method_43_code
def yX6_waits : MethodName := ⟨RX6, "waits", "()I"⟩
abbrev cX6_most : ByteArray := prog_8_method_44_code
def yX6_most : MethodName := ⟨RX6, "most", "()I"⟩
abbrev cX6_fasts : ByteArray := prog_8_method_45_code
def yX6_fasts : MethodName := ⟨RX6, "fasts", "()I"⟩
abbrev cX6_cabal : ByteArray := prog_8_method_46_code
def yX6_cabal : MethodName := ⟨RX6, "cabal", "(I)I"⟩
abbrev cX6_trades : ByteArray := prog_8_method_47_code
def yX6_trades : MethodName := ⟨RX6, "trades", "()I"⟩
abbrev cX6_orders : ByteArray := prog_8_method_48_code
def yX6_orders : MethodName := ⟨RX6, "orders", "(I)I"⟩
abbrev cX6_partOf : ByteArray := prog_8_method_49_code
def yX6_partOf : MethodName := ⟨RX6, "partOf", "(III)I"⟩
abbrev cX6_power : ByteArray := prog_8_method_50_code
def yX6_power : MethodName := ⟨RX6, "power", "(II)I"⟩
abbrev cX6_seen : ByteArray := prog_8_method_51_code
def yX6_seen : MethodName := ⟨RX6, "seen", "(II)I"⟩
abbrev cX6_forget : ByteArray := prog_8_method_52_code
def yX6_forget : MethodName := ⟨RX6, "forget", "()I"⟩
abbrev cX6_may : ByteArray := prog_8_method_53_code
def yX6_may : MethodName := ⟨RX6, "may", "(I)I"⟩
abbrev cX6_likely : ByteArray := prog_8_method_54_code
def yX6_likely : MethodName := ⟨RX6, "likely", "(II)I"⟩
abbrev cX6_turn : ByteArray := prog_8_method_55_code
def yX6_turn : MethodName := ⟨RX6, "turn", "(I)V"⟩
abbrev cX6_century : ByteArray := prog_8_method_56_code
def yX6_century : MethodName := ⟨RX6, "century", "(III)I"⟩
abbrev cX6_keep : ByteArray := prog_8_method_57_code
def yX6_keep : MethodName := ⟨RX6, "keep", "()I"⟩
abbrev cX6_back : ByteArray := prog_8_method_58_code
def yX6_back : MethodName := ⟨RX6, "back", "()I"⟩
abbrev cX6_count : ByteArray := prog_8_method_59_code
def yX6_count : MethodName := ⟨RX6, "count", "(I)I"⟩
def RJ6 : String := "java/lang/Integer"
def TJ6 : u_T := fun k => match k with
  | _ => ("", "", "", false)
def tyJ6 : Nat → FieldType := fun k => match k with
  | _ => .int
abbrev wsJ60 : List Cond := u_ws RJ6 TJ6 0
theorem nmJ6 : ∀ a, a < 0 → ∀ b, b < 0 → a ≠ b → (TJ6 a).2.1 ≠ (TJ6 b).2.1 := by decide +kernel
theorem tyJ6_ok : ∀ k, k < 0 → parseFieldDescriptor (TJ6 k).2.2.1 = some (tyJ6 k) := by decide +kernel
abbrev cJ6_bitCount_0f7a4 : ByteArray := prog_9_method_49_code
def yJ6_bitCount_0f7a4 : MethodName := ⟨RJ6, "bitCount", "(I)I"⟩
def RJ9 : String := "java/lang/Math"
def TJ9 : u_T := fun k => match k with
  | _ => ("", "", "", false)
def tyJ9 : Nat → FieldType := fun k => match k with
  | _ => .int
abbrev wsJ90 : List Cond := u_ws RJ9 TJ9 0
theorem nmJ9 : ∀ a, a < 0 → ∀ b, b < 0 → a ≠ b → (TJ9 a).2.1 ≠ (TJ9 b).2.1 := by decide +kernel
theorem tyJ9_ok : ∀ k, k < 0 → parseFieldDescriptor (TJ9 k).2.2.1 = some (tyJ9 k) := by decide +kernel
abbrev cJ9_max_7cf53 : ByteArray := prog_10_method_65_code
def yJ9_max_7cf53 : MethodName := ⟨RJ9, "max", "(II)I"⟩
abbrev cJ9_min_7cf53 : ByteArray := prog_10_method_69_code
def yJ9_min_7cf53 : MethodName := ⟨RJ9, "min", "(II)I"⟩
def RJ0 : String := "java/lang/String"
def TJ0 : u_T := fun k => match k with
  | _ => ("", "", "", false)
def tyJ0 : Nat → FieldType := fun k => match k with
  | _ => .int
abbrev wsJ00 : List Cond := u_ws RJ0 TJ0 0
theorem nmJ0 : ∀ a, a < 0 → ∀ b, b < 0 → a ≠ b → (TJ0 a).2.1 ≠ (TJ0 b).2.1 := by decide +kernel
theorem tyJ0_ok : ∀ k, k < 0 → parseFieldDescriptor (TJ0 k).2.2.1 = some (tyJ0 k) := by decide +kernel
abbrev cJ0_length_8abf5 : ByteArray := prog_11_method_54_code
def yJ0_length_8abf5 : MethodName := ⟨RJ0, "length", "()I"⟩
abbrev cJ0_charAt_5068e : ByteArray := prog_11_method_56_code
def yJ0_charAt_5068e : MethodName := ⟨RJ0, "charAt", "(I)C"⟩
abbrev cJ0_coder_7d493 : ByteArray := prog_11_method_152_code
def yJ0_coder_7d493 : MethodName := ⟨RJ0, "coder", "()B"⟩
abbrev cJ0_isLatin1_aae02 : ByteArray := prog_11_method_154_code
def yJ0_isLatin1_aae02 : MethodName := ⟨RJ0, "isLatin1", "()Z"⟩
abbrev cJ0_checkIndex_df160 : ByteArray := prog_11_method_155_code
def yJ0_checkIndex_df160 : MethodName := ⟨RJ0, "checkIndex", "(II)V"⟩
def RJ1 : String := "java/lang/StringLatin1"
def TJ1 : u_T := fun k => match k with
  | _ => ("", "", "", false)
def tyJ1 : Nat → FieldType := fun k => match k with
  | _ => .int
abbrev wsJ10 : List Cond := u_ws RJ1 TJ1 0
theorem nmJ1 : ∀ a, a < 0 → ∀ b, b < 0 → a ≠ b → (TJ1 a).2.1 ≠ (TJ1 b).2.1 := by decide +kernel
theorem tyJ1_ok : ∀ k, k < 0 → parseFieldDescriptor (TJ1 k).2.2.1 = some (tyJ1 k) := by decide +kernel
abbrev cJ1_charAt_3b067 : ByteArray := prog_12_method_2_code
def yJ1_charAt_3b067 : MethodName := ⟨RJ1, "charAt", "([BI)C"⟩
def RJ2 : String := "java/lang/StringUTF16"
def TJ2 : u_T := fun k => match k with
  | _ => ("", "", "", false)
def tyJ2 : Nat → FieldType := fun k => match k with
  | _ => .int
abbrev wsJ20 : List Cond := u_ws RJ2 TJ2 0
theorem nmJ2 : ∀ a, a < 0 → ∀ b, b < 0 → a ≠ b → (TJ2 a).2.1 ≠ (TJ2 b).2.1 := by decide +kernel
theorem tyJ2_ok : ∀ k, k < 0 → parseFieldDescriptor (TJ2 k).2.2.1 = some (tyJ2 k) := by decide +kernel
abbrev cJ2_getChar_3b067 : ByteArray := prog_13_method_5_code
def yJ2_getChar_3b067 : MethodName := ⟨RJ2, "getChar", "([BI)C"⟩
abbrev cJ2_length_9d52b : ByteArray := prog_13_method_6_code
def yJ2_length_9d52b : MethodName := ⟨RJ2, "length", "([B)I"⟩
abbrev cJ2_charAt_3b067 : ByteArray := prog_13_method_83_code
def yJ2_charAt_3b067 : MethodName := ⟨RJ2, "charAt", "([BI)C"⟩
abbrev cJ2_checkIndex_2214a : ByteArray := prog_13_method_91_code
def yJ2_checkIndex_2214a : MethodName := ⟨RJ2, "checkIndex", "(I[B)V"⟩
def RJ10 : String := "java/lang/System"
def TJ10 : u_T := fun k => match k with
  | _ => ("", "", "", false)
def tyJ10 : Nat → FieldType := fun k => match k with
  | _ => .int
abbrev wsJ100 : List Cond := u_ws RJ10 TJ10 0
theorem nmJ10 : ∀ a, a < 0 → ∀ b, b < 0 → a ≠ b → (TJ10 a).2.1 ≠ (TJ10 b).2.1 := by decide +kernel
theorem tyJ10_ok : ∀ k, k < 0 → parseFieldDescriptor (TJ10 k).2.2.1 = some (tyJ10 k) := by decide +kernel
def RJ3 : String := "jdk/internal/util/Preconditions"
def TJ3 : u_T := fun k => match k with
  | _ => ("", "", "", false)
def tyJ3 : Nat → FieldType := fun k => match k with
  | _ => .int
abbrev wsJ30 : List Cond := u_ws RJ3 TJ3 0
theorem nmJ3 : ∀ a, a < 0 → ∀ b, b < 0 → a ≠ b → (TJ3 a).2.1 ≠ (TJ3 b).2.1 := by decide +kernel
theorem tyJ3_ok : ∀ k, k < 0 → parseFieldDescriptor (TJ3 k).2.2.1 = some (tyJ3 k) := by decide +kernel
abbrev cJ3_checkIndex_8e157 : ByteArray := prog_15_method_11_code
def yJ3_checkIndex_8e157 : MethodName := ⟨RJ3, "checkIndex", "(IILjava/util/function/BiFunction;)I"⟩
def RL : String := "SpoonVotesLaw"
abbrev cL_law : ByteArray := code
def yL_law : MethodName := ⟨RL, "law", "([I)Z"⟩
abbrev vwCl : List vw_C := [(RX0, TX0, 2), (RX1, TX1, 3), (RX2, TX2, 3), (RX3, TX3, 11), (RX4, TX4, 3), (RX5, TX5, 7), (RX6, TX6, 16)]
/-- the words that every contract speaks of: those of the tables that stay -/
def zTB : List Cond := lw_tbl.filter goodWord
theorem zTB_in : ∀ w ∈ zTB, w ∈ lw_tbl := fun w h => (List.mem_filter.mp h).1
theorem zTB_good : ∀ w ∈ zTB, goodWord w = true := fun w h => (List.mem_filter.mp h).2
theorem zTB_of {w : Cond} (h : w ∈ lw_tbl) (hg : goodWord w = true) : w ∈ zTB := List.mem_filter.mpr ⟨h, hg⟩
theorem inX0 : ∀ w ∈ wsX00, w ∈ zTB := fun w h => zTB_of ((by decide +kernel : ∀ w ∈ wsX00, w ∈ lw_tbl) w h) ((by decide +kernel : ∀ w ∈ wsX00, goodWord w = true) w h)
theorem inX1 : ∀ w ∈ wsX10, w ∈ zTB := fun w h => zTB_of ((by decide +kernel : ∀ w ∈ wsX10, w ∈ lw_tbl) w h) ((by decide +kernel : ∀ w ∈ wsX10, goodWord w = true) w h)
theorem inX2 : ∀ w ∈ wsX20, w ∈ zTB := fun w h => zTB_of ((by decide +kernel : ∀ w ∈ wsX20, w ∈ lw_tbl) w h) ((by decide +kernel : ∀ w ∈ wsX20, goodWord w = true) w h)
theorem inX3 : ∀ w ∈ wsX30, w ∈ zTB := fun w h => zTB_of ((by decide +kernel : ∀ w ∈ wsX30, w ∈ lw_tbl) w h) ((by decide +kernel : ∀ w ∈ wsX30, goodWord w = true) w h)
theorem inX4 : ∀ w ∈ wsX40, w ∈ zTB := fun w h => zTB_of ((by decide +kernel : ∀ w ∈ wsX40, w ∈ lw_tbl) w h) ((by decide +kernel : ∀ w ∈ wsX40, goodWord w = true) w h)
theorem inX5 : ∀ w ∈ wsX50, w ∈ zTB := fun w h => zTB_of ((by decide +kernel : ∀ w ∈ wsX50, w ∈ lw_tbl) w h) ((by decide +kernel : ∀ w ∈ wsX50, goodWord w = true) w h)
theorem inX6 : ∀ w ∈ wsX60, w ∈ zTB := fun w h => zTB_of ((by decide +kernel : ∀ w ∈ wsX60, w ∈ lw_tbl) w h) ((by decide +kernel : ∀ w ∈ wsX60, goodWord w = true) w h)
end
section
/-! THE LAYER OF WHOLE WORLDS. K: launch, world constants, addresses' kind, address map, number of cells, array classes; X: the machine's place -/
def iI (z : Int) : Int32 := Int32.ofInt z
def zB (z : Int) : Prop := -2147483648 ≤ z ∧ z < 2147483648
theorem iI_toInt {z : Int} (h : zB z) : (iI z).toInt = z := by
  unfold iI
  exact Int32.toInt_ofInt_of_le (by have := h.1; omega) (by have := h.2; omega)
theorem iI_add (a b : Int) : iI a + iI b = iI (a + b) := by unfold iI; exact (Int32.ofInt_add a b).symm
theorem iI_sub (a b : Int) : iI a - iI b = iI (a - b) := by unfold iI; exact (Int32.ofInt_sub a b).symm
theorem iI_mul (a b : Int) : iI a * iI b = iI (a * b) := by unfold iI; exact (Int32.ofInt_mul a b).symm
theorem iI_inj {a b : Int} (ha : zB a) (hb : zB b) : iI a = iI b ↔ a = b := by
  constructor
  · intro h
    have h2 := congrArg Int32.toInt h
    rwa [iI_toInt ha, iI_toInt hb] at h2
  · intro h; rw [h]
theorem iI_lt {a b : Int} (ha : zB a) (hb : zB b) : iI a < iI b ↔ a < b := by
  rw [Int32.lt_iff_toInt_lt, iI_toInt ha, iI_toInt hb]
theorem iI_le {a b : Int} (ha : zB a) (hb : zB b) : iI a ≤ iI b ↔ a ≤ b := by
  rw [Int32.le_iff_toInt_le, iI_toInt ha, iI_toInt hb]
theorem iI_of (x : Int32) : x = iI x.toInt := by
  unfold iI
  exact (Int32.ofInt_toInt x).symm
theorem zB_toInt (x : Int32) : zB x.toInt := ⟨by have := x.le_toInt; omega, by have := x.toInt_lt; omega⟩
theorem iI_cl {z : Int} (h0 : 0 ≤ z) (h : z < 2147483648) : (iI z).toNatClampNeg = z.toNat := by
  show (iI z).toInt.toNat = _
  rw [iI_toInt ⟨by omega, h⟩]
theorem iI_in {z : Int} {n : Nat} (h0 : 0 ≤ z) (h : z < n) (hn : n < 2147483648) : vp_in (iI z) n := by
  have hb : zB z := ⟨by omega, by omega⟩
  rw [vp_in_iff, iI_toInt hb]
  exact ⟨h0, h⟩
theorem iI_nat (n : Nat) : Int32.ofNat n = iI (n : Int) := by
  unfold iI
  rfl
def uI (g : Int → Int) (k v : Int) : Int → Int := fun y => if y = k then v else g y
theorem uI_s (g : Int → Int) (k v : Int) : uI g k v k = v := by simp [uI]
theorem uI_n (g : Int → Int) {k y : Int} (v : Int) (h : y ≠ k) : uI g k v y = g y := by simp [uI, h]
def aI (g : Int → Int) : Nat → Int32 := fun q => iI (g (q : Int))
theorem aI_rd (g : Int → Int) {z : Int} (h0 : 0 ≤ z) (h : z < 2147483648) : aI g (iI z).toNatClampNeg = iI (g z) := by
  unfold aI
  rw [iI_cl h0 h, Int.toNat_of_nonneg h0]
theorem aI_up (g : Int → Int) {z : Int} (v : Int) (h0 : 0 ≤ z) (h : z < 2147483648) : upd (aI g) (iI z).toNatClampNeg (iI v) = aI (uI g z v) := by
  funext q
  unfold upd aI uI
  rw [iI_cl h0 h]
  by_cases hq : q = z.toNat
  · have h2 : (q : Int) = z := by omega
    rw [if_pos hq, if_pos h2]
  · have h2 : ¬ (q : Int) = z := by omega
    rw [if_neg hq, if_neg h2]
abbrev zK : Type := Launch × va_G × (Nat → Prop) × (Nat → Nat) × Nat × ClassId × ClassId × ClassId
abbrev zX : Type := Program × Env × Room × State × MethodId × Array Value × List Frame × Method × Code × (State → Prop) × Nat × Nat
abbrev zE : Type := Nat → va_E
def kl (K : zK) : Launch := K.1
def kD (K : zK) : va_G := K.2.1
def kA (K : zK) : Nat → Prop := K.2.2.1
def kad (K : zK) : Nat → Nat := K.2.2.2.1
def kN (K : zK) : Nat := K.2.2.2.2.1
def kI (K : zK) : ClassId := K.2.2.2.2.2.1
def kC (K : zK) : ClassId := K.2.2.2.2.2.2.1
def kS (K : zK) : ClassId := K.2.2.2.2.2.2.2
def zty (K : zK) : List (ClassId × FieldType) := [(kI K, .int), (kC K, .char), (kS K, .object RX3)]
def zwl (K : zK) (ct : zE) : va_W := (List.range (kN K)).map (fun k => (kad K k, ct k))
def zup (ct : zE) (k : Nat) (e : va_E) : zE := fun j => if j = k then e else ct j
def zInj (K : zK) : Prop := (∀ i j : Nat, i < kN K → j < kN K → kad K i = kad K j → i = j) ∧ ∀ i : Nat, i < kN K → kA K (kad K i)
/-- the links among nest mates, which no list of words keeps -/
def zNest (U : State) : Prop := va_Nw (.methodLinkNest RX3 46 yX5_isOutside RX5) U ∧ va_Nw (.methodLinkNest RX0 33 yX5_isOutside RX5) U ∧ va_Nw (.methodLinkNest RX2 22 yX5_isOutside RX5) U
theorem zNest_warm {s U : State} (hW : s.WarmedH U.vm) (h : zNest s) : zNest U := ⟨va_Nw.warmM hW h.1, va_Nw.warmM hW h.2.1, va_Nw.warmM hW h.2.2⟩
theorem zNest_same {u U : State} (hv : u.vm = U.vm) (h : zNest u) : zNest U := ⟨va_Nw.same rfl hv h.1, va_Nw.same rfl hv h.2.1, va_Nw.same rfl hv h.2.2⟩
theorem zwl_at {K : zK} {ct : zE} {k : Nat} (h : k < kN K) : (zwl K ct)[k]? = some (kad K k, ct k) := by
  unfold zwl
  rw [List.getElem?_map, List.getElem?_range h]
  rfl
theorem zwl_set {K : zK} {ct : zE} {k : Nat} (e : va_E) : (zwl K ct).set k (kad K k, e) = zwl K (zup ct k e) := by
  apply List.ext_getElem?
  intro i
  rw [List.getElem?_set]
  unfold zwl zup
  simp only [List.getElem?_map, List.length_map, List.length_range]
  by_cases hi : k = i
  · subst hi
    by_cases hk : k < kN K
    · simp [hk, List.getElem?_range hk]
    · simp [hk]
  · rw [if_neg hi]
    by_cases hk : i < kN K
    · rw [List.getElem?_range hk]
      simp [Ne.symm hi]
    · rw [List.getElem?_eq_none (by simpa using Nat.le_of_not_lt hk)]
      rfl
theorem zwl_D {K : zK} (hI : zInj K) (ct : zE) : va_D (kA K) (zwl K ct) := by
  have key : ∀ (k : Nat) (q : Nat × va_E), (zwl K ct)[k]? = some q → k < kN K ∧ q.1 = kad K k := by
    intro k q h
    have hl : k < kN K := by
      have := (List.getElem?_eq_some_iff.mp h).1
      simpa [zwl] using this
    rw [zwl_at hl] at h
    exact ⟨hl, by rw [← Option.some.inj h]⟩
  refine ⟨fun i j x y hi hj hxy => ?_, fun k q hk => ?_⟩
  · obtain ⟨h1, h2⟩ := key i x hi
    obtain ⟨h3, h4⟩ := key j y hj
    exact hI.1 i j h1 h3 (by rw [← h2, ← h4]; exact hxy)
  · obtain ⟨h1, h2⟩ := key k q hk
    rw [h2]
    exact hI.2 k h1
/-- a world of K -/
def zW (K : zK) (ct : zE) (U : State) : Prop := va_P (kD K) vwCl (zwl K ct) U.heap ∧ va_K (kD K) vwCl (zty K) U ∧ zNest U
theorem zgood {ws : List Cond} (h : ∀ w ∈ ws, w ∈ zTB) : GoodIn zTB ws := fun w hw => ⟨h w hw, good_of_word (zTB_good w (h w hw))⟩
/-- where the machine stands, with all that a row asks of it -/
def zO (K : zK) (X : zX) (cc : ByteArray) (own : String) (ret : Option FieldType) (nL f : Nat) : Prop :=
  X.1.tables.exec = Jvm.exec ∧ X.2.2.2.2.2.2.2.2.1.code = cc ∧ X.2.2.2.2.2.2.2.1.sig.returnType = ret ∧ X.2.2.2.2.2.2.2.2.1.maxLocals = nL ∧ X.2.2.2.1.vm.findClass own = some X.2.2.2.2.1.cls ∧
  (∀ w ∈ zTB, w.before X.2.2.2.2.2.1 X.2.2.2.1 = true) ∧ X.2.2.2.2.2.2.2.1.locks = false ∧ va_K (kD K) vwCl (zty K) X.2.2.2.1 ∧ zNest X.2.2.2.1 ∧ zInj K ∧ f ≤ X.2.2.1.frames ∧ 32 * f ≤ X.2.2.1.locals ∧
  X.2.2.2.2.2.2.2.2.2.2.1 ≤ X.2.2.1.cells ∧ X.2.2.2.2.2.2.2.2.2.2.2 ≤ X.2.2.1.slots
/-- the judgement: from this place, with these locals, this stack and this world, the machine comes to its end -/
def G (K : zK) (X : zX) (nL pc : Nat) (lo : List (Nat × Value)) (st : List Value) (ct : zE) : Prop :=
  ∀ (H : Heap) (locs : List Loc) (ls : Array Slot), va_P (kD K) vwCl (zwl K ct) H → va_S (kA K) X.2.2.2.1.heap H locs → lv_has ls nL lo →
    W X.1 (kl K) X.2.1 X.2.2.1 X.2.2.2.1 X.2.2.2.2.1 X.2.2.2.2.2.1 X.2.2.2.2.2.2.1 X.2.2.2.2.2.2.2.1 X.2.2.2.2.2.2.2.2.1 H locs X.2.2.2.2.2.2.2.2.2.2.1 X.2.2.2.2.2.2.2.2.2.2.2 X.2.2.2.2.2.2.2.2.2.1 (F0 X.2.2.2.2.1 pc ls st)
/-- the locals, one stored: those that it hides go -/
def zst (i : Nat) (v : Value) (lo : List (Nat × Value)) : List (Nat × Value) := (i, v) :: lo.filter (fun q => !(q.1 == i) && !(q.1 + 1 == i && q.2.category == 2))
def zst2 (i : Nat) (v : Value) (lo : List (Nat × Value)) : List (Nat × Value) := (i, v) :: lo.filter (fun q => !(q.1 == i) && (!(q.1 == i + 1) && !(q.1 + 1 == i && q.2.category == 2)))
def zLo (lo : List (Nat × Value)) (i : Nat) (v : Value) : Prop := (i, v) ∈ lo
theorem zLo_get {lo : List (Nat × Value)} {i : Nat} {v : Value} (h : zLo lo i v) {ls : Array Slot} {nL : Nat} (hl : lv_has ls nL lo) : ls[i]? = some (.val v) := hl.2.2 (i, v) h
theorem zLo_0 {i : Nat} {v : Value} {l : List (Nat × Value)} : zLo ((i, v) :: l) i v := List.mem_cons_self
theorem zLo_s {i : Nat} {v : Value} {q : Nat × Value} {l : List (Nat × Value)} (h : zLo l i v) : zLo (q :: l) i v := List.mem_cons_of_mem _ h
theorem G_sub {K : zK} {X : zX} {nL pc : Nat} {lo lo' : List (Nat × Value)} {st : List Value} {ct : zE} (h : ∀ q ∈ lo', q ∈ lo) (k : G K X nL pc lo' st ct) : G K X nL pc lo st ct :=
  fun H locs ls hP hS hl => k H locs ls hP hS ⟨hl.1, hl.2.1, fun q hq => hl.2.2 q (h q hq)⟩
theorem G_ct {K : zK} {X : zX} {nL pc : Nat} {lo : List (Nat × Value)} {st : List Value} {ct ct' : zE} (h : ct = ct') (k : G K X nL pc lo st ct') : G K X nL pc lo st ct := h ▸ k
theorem G_st {K : zK} {X : zX} {nL pc : Nat} {lo : List (Nat × Value)} {st st' : List Value} {ct : zE} (h : st = st') (k : G K X nL pc lo st' ct) : G K X nL pc lo st ct := h ▸ k

theorem r_iconst {K : zK} {X : zX} {cc : ByteArray} {own : String} {ret : Option FieldType} {nL f pc : Nat} {lo : List (Nat × Value)} {st : List Value} {ct : zE} {n : Int} (O : zO K X cc own ret nL f) (hd : decode cc pc = .ok (.iconst n, 1)) (k : G K X nL (pc + 1) lo (.int (iI n) :: st) ct) : G K X nL pc lo st ct := by
  obtain ⟨l, D, A, ad, N, cI, cC, cS⟩ := K
  obtain ⟨p, e, R, s, m, args, below, meth, c, Q, cells, slots⟩ := X
  obtain ⟨hx, hb, hr, hml, hown, hts, hlk, hK, hZ, hI, hf1, hf2, hc1, hc2⟩ := O
  intro H locs ls hP hS hl
  exact lv_iconst hx hb hd rfl (k H locs ls hP hS hl)
theorem r_bipush {K : zK} {X : zX} {cc : ByteArray} {own : String} {ret : Option FieldType} {nL f pc : Nat} {lo : List (Nat × Value)} {st : List Value} {ct : zE} {n : Int} (O : zO K X cc own ret nL f) (hv : (Int8.ofInt n).toInt32 = iI n) (hd : decode cc pc = .ok (.bipush n, 2)) (k : G K X nL (pc + 2) lo (.int (iI n) :: st) ct) : G K X nL pc lo st ct := by
  obtain ⟨l, D, A, ad, N, cI, cC, cS⟩ := K
  obtain ⟨p, e, R, s, m, args, below, meth, c, Q, cells, slots⟩ := X
  obtain ⟨hx, hb, hr, hml, hown, hts, hlk, hK, hZ, hI, hf1, hf2, hc1, hc2⟩ := O
  intro H locs ls hP hS hl
  exact lv_bipush hx hb hd hv (k H locs ls hP hS hl)
theorem r_sipush {K : zK} {X : zX} {cc : ByteArray} {own : String} {ret : Option FieldType} {nL f pc : Nat} {lo : List (Nat × Value)} {st : List Value} {ct : zE} {n : Int} (O : zO K X cc own ret nL f) (hv : (Int16.ofInt n).toInt32 = iI n) (hd : decode cc pc = .ok (.sipush n, 3)) (k : G K X nL (pc + 3) lo (.int (iI n) :: st) ct) : G K X nL pc lo st ct := by
  obtain ⟨l, D, A, ad, N, cI, cC, cS⟩ := K
  obtain ⟨p, e, R, s, m, args, below, meth, c, Q, cells, slots⟩ := X
  obtain ⟨hx, hb, hr, hml, hown, hts, hlk, hK, hZ, hI, hf1, hf2, hc1, hc2⟩ := O
  intro H locs ls hP hS hl
  exact lv_sipush hx hb hd hv (k H locs ls hP hS hl)
theorem r_iload_n {K : zK} {X : zX} {cc : ByteArray} {own : String} {ret : Option FieldType} {nL f pc : Nat} {lo : List (Nat × Value)} {st : List Value} {ct : zE} {q : Fin 4} {i : Nat} {x : Int32} (O : zO K X cc own ret nL f) (hd : decode cc pc = .ok (.iload_n q, 1)) (hi : (q : Nat) = i) (hg : zLo lo i (.int x)) (k : G K X nL (pc + 1) lo (.int x :: st) ct) : G K X nL pc lo st ct := by
  obtain ⟨l, D, A, ad, N, cI, cC, cS⟩ := K
  obtain ⟨p, e, R, s, m, args, below, meth, c, Q, cells, slots⟩ := X
  obtain ⟨hx, hb, hr, hml, hown, hts, hlk, hK, hZ, hI, hf1, hf2, hc1, hc2⟩ := O
  intro H locs ls hP hS hl
  exact lv_iload_n hx hb hd hi (zLo_get hg hl) (k H locs ls hP hS hl)
theorem r_iload {K : zK} {X : zX} {cc : ByteArray} {own : String} {ret : Option FieldType} {nL f pc : Nat} {lo : List (Nat × Value)} {st : List Value} {ct : zE} {i : Nat} {x : Int32} (O : zO K X cc own ret nL f) (hd : decode cc pc = .ok (.iload i, 2)) (hg : zLo lo i (.int x)) (k : G K X nL (pc + 2) lo (.int x :: st) ct) : G K X nL pc lo st ct := by
  obtain ⟨l, D, A, ad, N, cI, cC, cS⟩ := K
  obtain ⟨p, e, R, s, m, args, below, meth, c, Q, cells, slots⟩ := X
  obtain ⟨hx, hb, hr, hml, hown, hts, hlk, hK, hZ, hI, hf1, hf2, hc1, hc2⟩ := O
  intro H locs ls hP hS hl
  exact lv_iload hx hb hd (zLo_get hg hl) (k H locs ls hP hS hl)
theorem r_istore_n {K : zK} {X : zX} {cc : ByteArray} {own : String} {ret : Option FieldType} {nL f pc : Nat} {lo : List (Nat × Value)} {st : List Value} {ct : zE} {q : Fin 4} {i : Nat} {x : Int32} {lo2 : List (Nat × Value)} (O : zO K X cc own ret nL f) (hd : decode cc pc = .ok (.istore_n q, 1)) (hi : (q : Nat) = i) (hn : i < nL) (hg : zst i (.int x) lo = lo2) (k : G K X nL (pc + 1) lo2 st ct) : G K X nL pc lo (.int x :: st) ct := by
  obtain ⟨l, D, A, ad, N, cI, cC, cS⟩ := K
  obtain ⟨p, e, R, s, m, args, below, meth, c, Q, cells, slots⟩ := X
  obtain ⟨hx, hb, hr, hml, hown, hts, hlk, hK, hZ, hI, hf1, hf2, hc1, hc2⟩ := O
  intro H locs ls hP hS hl
  exact lv_istore_n hx hb hd hi hl hn hg (fun ls2 hl2 => k H locs ls2 hP hS hl2)
theorem r_istore {K : zK} {X : zX} {cc : ByteArray} {own : String} {ret : Option FieldType} {nL f pc : Nat} {lo : List (Nat × Value)} {st : List Value} {ct : zE} {i : Nat} {x : Int32} {lo2 : List (Nat × Value)} (O : zO K X cc own ret nL f) (hd : decode cc pc = .ok (.istore i, 2)) (hn : i < nL) (hg : zst i (.int x) lo = lo2) (k : G K X nL (pc + 2) lo2 st ct) : G K X nL pc lo (.int x :: st) ct := by
  obtain ⟨l, D, A, ad, N, cI, cC, cS⟩ := K
  obtain ⟨p, e, R, s, m, args, below, meth, c, Q, cells, slots⟩ := X
  obtain ⟨hx, hb, hr, hml, hown, hts, hlk, hK, hZ, hI, hf1, hf2, hc1, hc2⟩ := O
  intro H locs ls hP hS hl
  exact lv_istore hx hb hd hl hn hg (fun ls2 hl2 => k H locs ls2 hP hS hl2)
theorem r_aload_n {K : zK} {X : zX} {cc : ByteArray} {own : String} {ret : Option FieldType} {nL f pc : Nat} {lo : List (Nat × Value)} {st : List Value} {ct : zE} {q : Fin 4} {i : Nat} {x : Nat} (O : zO K X cc own ret nL f) (hd : decode cc pc = .ok (.aload_n q, 1)) (hi : (q : Nat) = i) (hg : zLo lo i (.ref x)) (k : G K X nL (pc + 1) lo (.ref x :: st) ct) : G K X nL pc lo st ct := by
  obtain ⟨l, D, A, ad, N, cI, cC, cS⟩ := K
  obtain ⟨p, e, R, s, m, args, below, meth, c, Q, cells, slots⟩ := X
  obtain ⟨hx, hb, hr, hml, hown, hts, hlk, hK, hZ, hI, hf1, hf2, hc1, hc2⟩ := O
  intro H locs ls hP hS hl
  exact lv_aload_n hx hb hd hi (zLo_get hg hl) (k H locs ls hP hS hl)
theorem r_aload {K : zK} {X : zX} {cc : ByteArray} {own : String} {ret : Option FieldType} {nL f pc : Nat} {lo : List (Nat × Value)} {st : List Value} {ct : zE} {i : Nat} {x : Nat} (O : zO K X cc own ret nL f) (hd : decode cc pc = .ok (.aload i, 2)) (hg : zLo lo i (.ref x)) (k : G K X nL (pc + 2) lo (.ref x :: st) ct) : G K X nL pc lo st ct := by
  obtain ⟨l, D, A, ad, N, cI, cC, cS⟩ := K
  obtain ⟨p, e, R, s, m, args, below, meth, c, Q, cells, slots⟩ := X
  obtain ⟨hx, hb, hr, hml, hown, hts, hlk, hK, hZ, hI, hf1, hf2, hc1, hc2⟩ := O
  intro H locs ls hP hS hl
  exact lv_aload hx hb hd (zLo_get hg hl) (k H locs ls hP hS hl)
theorem r_astore_n {K : zK} {X : zX} {cc : ByteArray} {own : String} {ret : Option FieldType} {nL f pc : Nat} {lo : List (Nat × Value)} {st : List Value} {ct : zE} {q : Fin 4} {i : Nat} {x : Nat} {lo2 : List (Nat × Value)} (O : zO K X cc own ret nL f) (hd : decode cc pc = .ok (.astore_n q, 1)) (hi : (q : Nat) = i) (hn : i < nL) (hg : zst i (.ref x) lo = lo2) (k : G K X nL (pc + 1) lo2 st ct) : G K X nL pc lo (.ref x :: st) ct := by
  obtain ⟨l, D, A, ad, N, cI, cC, cS⟩ := K
  obtain ⟨p, e, R, s, m, args, below, meth, c, Q, cells, slots⟩ := X
  obtain ⟨hx, hb, hr, hml, hown, hts, hlk, hK, hZ, hI, hf1, hf2, hc1, hc2⟩ := O
  intro H locs ls hP hS hl
  exact lv_astore_n hx hb hd hi hl hn hg (fun ls2 hl2 => k H locs ls2 hP hS hl2)
theorem r_astore {K : zK} {X : zX} {cc : ByteArray} {own : String} {ret : Option FieldType} {nL f pc : Nat} {lo : List (Nat × Value)} {st : List Value} {ct : zE} {i : Nat} {x : Nat} {lo2 : List (Nat × Value)} (O : zO K X cc own ret nL f) (hd : decode cc pc = .ok (.astore i, 2)) (hn : i < nL) (hg : zst i (.ref x) lo = lo2) (k : G K X nL (pc + 2) lo2 st ct) : G K X nL pc lo (.ref x :: st) ct := by
  obtain ⟨l, D, A, ad, N, cI, cC, cS⟩ := K
  obtain ⟨p, e, R, s, m, args, below, meth, c, Q, cells, slots⟩ := X
  obtain ⟨hx, hb, hr, hml, hown, hts, hlk, hK, hZ, hI, hf1, hf2, hc1, hc2⟩ := O
  intro H locs ls hP hS hl
  exact lv_astore hx hb hd hl hn hg (fun ls2 hl2 => k H locs ls2 hP hS hl2)
theorem r_lload_n {K : zK} {X : zX} {cc : ByteArray} {own : String} {ret : Option FieldType} {nL f pc : Nat} {lo : List (Nat × Value)} {st : List Value} {ct : zE} {q : Fin 4} {i : Nat} {x : Int64} (O : zO K X cc own ret nL f) (hd : decode cc pc = .ok (.lload_n q, 1)) (hi : (q : Nat) = i) (hg : zLo lo i (.long x)) (k : G K X nL (pc + 1) lo (.long x :: st) ct) : G K X nL pc lo st ct := by
  obtain ⟨l, D, A, ad, N, cI, cC, cS⟩ := K
  obtain ⟨p, e, R, s, m, args, below, meth, c, Q, cells, slots⟩ := X
  obtain ⟨hx, hb, hr, hml, hown, hts, hlk, hK, hZ, hI, hf1, hf2, hc1, hc2⟩ := O
  intro H locs ls hP hS hl
  exact lv_lload_n hx hb hd hi (zLo_get hg hl) (k H locs ls hP hS hl)
theorem r_lload {K : zK} {X : zX} {cc : ByteArray} {own : String} {ret : Option FieldType} {nL f pc : Nat} {lo : List (Nat × Value)} {st : List Value} {ct : zE} {i : Nat} {x : Int64} (O : zO K X cc own ret nL f) (hd : decode cc pc = .ok (.lload i, 2)) (hg : zLo lo i (.long x)) (k : G K X nL (pc + 2) lo (.long x :: st) ct) : G K X nL pc lo st ct := by
  obtain ⟨l, D, A, ad, N, cI, cC, cS⟩ := K
  obtain ⟨p, e, R, s, m, args, below, meth, c, Q, cells, slots⟩ := X
  obtain ⟨hx, hb, hr, hml, hown, hts, hlk, hK, hZ, hI, hf1, hf2, hc1, hc2⟩ := O
  intro H locs ls hP hS hl
  exact lv_lload hx hb hd (zLo_get hg hl) (k H locs ls hP hS hl)
theorem r_lstore_n {K : zK} {X : zX} {cc : ByteArray} {own : String} {ret : Option FieldType} {nL f pc : Nat} {lo : List (Nat × Value)} {st : List Value} {ct : zE} {q : Fin 4} {i : Nat} {x : Int64} {lo2 : List (Nat × Value)} (O : zO K X cc own ret nL f) (hd : decode cc pc = .ok (.lstore_n q, 1)) (hi : (q : Nat) = i) (hn : i + 1 < nL) (hg : zst2 i (.long x) lo = lo2) (k : G K X nL (pc + 1) lo2 st ct) : G K X nL pc lo (.long x :: st) ct := by
  obtain ⟨l, D, A, ad, N, cI, cC, cS⟩ := K
  obtain ⟨p, e, R, s, m, args, below, meth, c, Q, cells, slots⟩ := X
  obtain ⟨hx, hb, hr, hml, hown, hts, hlk, hK, hZ, hI, hf1, hf2, hc1, hc2⟩ := O
  intro H locs ls hP hS hl
  exact lv_lstore_n hx hb hd hi hl hn hg (fun ls2 hl2 => k H locs ls2 hP hS hl2)
theorem r_lstore {K : zK} {X : zX} {cc : ByteArray} {own : String} {ret : Option FieldType} {nL f pc : Nat} {lo : List (Nat × Value)} {st : List Value} {ct : zE} {i : Nat} {x : Int64} {lo2 : List (Nat × Value)} (O : zO K X cc own ret nL f) (hd : decode cc pc = .ok (.lstore i, 2)) (hn : i + 1 < nL) (hg : zst2 i (.long x) lo = lo2) (k : G K X nL (pc + 2) lo2 st ct) : G K X nL pc lo (.long x :: st) ct := by
  obtain ⟨l, D, A, ad, N, cI, cC, cS⟩ := K
  obtain ⟨p, e, R, s, m, args, below, meth, c, Q, cells, slots⟩ := X
  obtain ⟨hx, hb, hr, hml, hown, hts, hlk, hK, hZ, hI, hf1, hf2, hc1, hc2⟩ := O
  intro H locs ls hP hS hl
  exact lv_lstore hx hb hd hl hn hg (fun ls2 hl2 => k H locs ls2 hP hS hl2)
theorem r_iinc {K : zK} {X : zX} {cc : ByteArray} {own : String} {ret : Option FieldType} {nL f pc : Nat} {lo : List (Nat × Value)} {st : List Value} {ct : zE} {i : Nat} {n x : Int} {lo2 : List (Nat × Value)} (O : zO K X cc own ret nL f) (hd : decode cc pc = .ok (.iinc i n, 3)) (hn : i < nL) (hg : zLo lo i (.int (iI x))) (hh : zst i (.int (iI (x + n))) lo = lo2) (k : G K X nL (pc + 3) lo2 st ct) : G K X nL pc lo st ct := by
  obtain ⟨l, D, A, ad, N, cI, cC, cS⟩ := K
  obtain ⟨p, e, R, s, m, args, below, meth, c, Q, cells, slots⟩ := X
  obtain ⟨hx, hb, hr, hml, hown, hts, hlk, hK, hZ, hI, hf1, hf2, hc1, hc2⟩ := O
  intro H locs ls hP hS hl
  obtain ⟨k2, h2⟩ := List.getElem?_of_mem hg
  exact lv_iinc hx hb hd hl h2 (show iI x + iI n = iI (x + n) from iI_add x n) hn hh (fun ls2 hl2 => k H locs ls2 hP hS hl2)
theorem r_iadd {K : zK} {X : zX} {cc : ByteArray} {own : String} {ret : Option FieldType} {nL f pc : Nat} {lo : List (Nat × Value)} {st : List Value} {ct : zE} {x y : Int} (O : zO K X cc own ret nL f) (hd : decode cc pc = .ok (.iadd, 1)) (k : G K X nL (pc + 1) lo (.int (iI (x + y)) :: st) ct) : G K X nL pc lo (.int (iI y) :: .int (iI x) :: st) ct := by
  obtain ⟨l, D, A, ad, N, cI, cC, cS⟩ := K
  obtain ⟨p, e, R, s, m, args, below, meth, c, Q, cells, slots⟩ := X
  obtain ⟨hx, hb, hr, hml, hown, hts, hlk, hK, hZ, hI, hf1, hf2, hc1, hc2⟩ := O
  intro H locs ls hP hS hl
  refine lv_iadd hx hb hd ?_
  rw [iI_add]
  exact (k H locs ls hP hS hl)
theorem r_isub {K : zK} {X : zX} {cc : ByteArray} {own : String} {ret : Option FieldType} {nL f pc : Nat} {lo : List (Nat × Value)} {st : List Value} {ct : zE} {x y : Int} (O : zO K X cc own ret nL f) (hd : decode cc pc = .ok (.isub, 1)) (k : G K X nL (pc + 1) lo (.int (iI (x - y)) :: st) ct) : G K X nL pc lo (.int (iI y) :: .int (iI x) :: st) ct := by
  obtain ⟨l, D, A, ad, N, cI, cC, cS⟩ := K
  obtain ⟨p, e, R, s, m, args, below, meth, c, Q, cells, slots⟩ := X
  obtain ⟨hx, hb, hr, hml, hown, hts, hlk, hK, hZ, hI, hf1, hf2, hc1, hc2⟩ := O
  intro H locs ls hP hS hl
  refine lv_isub hx hb hd ?_
  rw [iI_sub]
  exact (k H locs ls hP hS hl)
theorem r_imul {K : zK} {X : zX} {cc : ByteArray} {own : String} {ret : Option FieldType} {nL f pc : Nat} {lo : List (Nat × Value)} {st : List Value} {ct : zE} {x y : Int} (O : zO K X cc own ret nL f) (hd : decode cc pc = .ok (.imul, 1)) (k : G K X nL (pc + 1) lo (.int (iI (x * y)) :: st) ct) : G K X nL pc lo (.int (iI y) :: .int (iI x) :: st) ct := by
  obtain ⟨l, D, A, ad, N, cI, cC, cS⟩ := K
  obtain ⟨p, e, R, s, m, args, below, meth, c, Q, cells, slots⟩ := X
  obtain ⟨hx, hb, hr, hml, hown, hts, hlk, hK, hZ, hI, hf1, hf2, hc1, hc2⟩ := O
  intro H locs ls hP hS hl
  refine lv_imul hx hb hd ?_
  rw [iI_mul]
  exact (k H locs ls hP hS hl)
theorem r_idiv {K : zK} {X : zX} {cc : ByteArray} {own : String} {ret : Option FieldType} {nL f pc : Nat} {lo : List (Nat × Value)} {st : List Value} {ct : zE} {x y : Int32} {z : Int} (O : zO K X cc own ret nL f) (hne : ¬ y = 0) (hz : x / y = iI z) (hd : decode cc pc = .ok (.idiv, 1)) (k : G K X nL (pc + 1) lo (.int (iI z) :: st) ct) : G K X nL pc lo (.int y :: .int x :: st) ct := by
  obtain ⟨l, D, A, ad, N, cI, cC, cS⟩ := K
  obtain ⟨p, e, R, s, m, args, below, meth, c, Q, cells, slots⟩ := X
  obtain ⟨hx, hb, hr, hml, hown, hts, hlk, hK, hZ, hI, hf1, hf2, hc1, hc2⟩ := O
  intro H locs ls hP hS hl
  refine lv_idiv hx hb hd hne ?_
  first | (rw [hz]; exact (k H locs ls hP hS hl)) | (have h9 := (k H locs ls hP hS hl); rw [← hz] at h9; exact h9)
theorem r_irem {K : zK} {X : zX} {cc : ByteArray} {own : String} {ret : Option FieldType} {nL f pc : Nat} {lo : List (Nat × Value)} {st : List Value} {ct : zE} {x y : Int32} {z : Int} (O : zO K X cc own ret nL f) (hne : ¬ y = 0) (hz : x - x / y * y = iI z) (hd : decode cc pc = .ok (.irem, 1)) (k : G K X nL (pc + 1) lo (.int (iI z) :: st) ct) : G K X nL pc lo (.int y :: .int x :: st) ct := by
  obtain ⟨l, D, A, ad, N, cI, cC, cS⟩ := K
  obtain ⟨p, e, R, s, m, args, below, meth, c, Q, cells, slots⟩ := X
  obtain ⟨hx, hb, hr, hml, hown, hts, hlk, hK, hZ, hI, hf1, hf2, hc1, hc2⟩ := O
  intro H locs ls hP hS hl
  refine lv_irem hx hb hd hne ?_
  first | (rw [hz]; exact (k H locs ls hP hS hl)) | (have h9 := (k H locs ls hP hS hl); rw [← hz] at h9; exact h9)
theorem r_iand {K : zK} {X : zX} {cc : ByteArray} {own : String} {ret : Option FieldType} {nL f pc : Nat} {lo : List (Nat × Value)} {st : List Value} {ct : zE} {x y : Int32} {z : Int} (O : zO K X cc own ret nL f) (hz : x &&& y = iI z) (hd : decode cc pc = .ok (.iand, 1)) (k : G K X nL (pc + 1) lo (.int (iI z) :: st) ct) : G K X nL pc lo (.int y :: .int x :: st) ct := by
  obtain ⟨l, D, A, ad, N, cI, cC, cS⟩ := K
  obtain ⟨p, e, R, s, m, args, below, meth, c, Q, cells, slots⟩ := X
  obtain ⟨hx, hb, hr, hml, hown, hts, hlk, hK, hZ, hI, hf1, hf2, hc1, hc2⟩ := O
  intro H locs ls hP hS hl
  refine lv_iand hx hb hd ?_
  first | (rw [hz]; exact (k H locs ls hP hS hl)) | (have h9 := (k H locs ls hP hS hl); rw [← hz] at h9; exact h9)
theorem r_ior {K : zK} {X : zX} {cc : ByteArray} {own : String} {ret : Option FieldType} {nL f pc : Nat} {lo : List (Nat × Value)} {st : List Value} {ct : zE} {x y : Int32} {z : Int} (O : zO K X cc own ret nL f) (hz : x ||| y = iI z) (hd : decode cc pc = .ok (.ior, 1)) (k : G K X nL (pc + 1) lo (.int (iI z) :: st) ct) : G K X nL pc lo (.int y :: .int x :: st) ct := by
  obtain ⟨l, D, A, ad, N, cI, cC, cS⟩ := K
  obtain ⟨p, e, R, s, m, args, below, meth, c, Q, cells, slots⟩ := X
  obtain ⟨hx, hb, hr, hml, hown, hts, hlk, hK, hZ, hI, hf1, hf2, hc1, hc2⟩ := O
  intro H locs ls hP hS hl
  refine lv_ior hx hb hd ?_
  first | (rw [hz]; exact (k H locs ls hP hS hl)) | (have h9 := (k H locs ls hP hS hl); rw [← hz] at h9; exact h9)
theorem r_ishl {K : zK} {X : zX} {cc : ByteArray} {own : String} {ret : Option FieldType} {nL f pc : Nat} {lo : List (Nat × Value)} {st : List Value} {ct : zE} {x y : Int32} {z : Int} (O : zO K X cc own ret nL f) (hz : x <<< (y &&& 31) = iI z) (hd : decode cc pc = .ok (.ishl, 1)) (k : G K X nL (pc + 1) lo (.int (iI z) :: st) ct) : G K X nL pc lo (.int y :: .int x :: st) ct := by
  obtain ⟨l, D, A, ad, N, cI, cC, cS⟩ := K
  obtain ⟨p, e, R, s, m, args, below, meth, c, Q, cells, slots⟩ := X
  obtain ⟨hx, hb, hr, hml, hown, hts, hlk, hK, hZ, hI, hf1, hf2, hc1, hc2⟩ := O
  intro H locs ls hP hS hl
  refine lv_ishl hx hb hd ?_
  first | (rw [hz]; exact (k H locs ls hP hS hl)) | (have h9 := (k H locs ls hP hS hl); rw [← hz] at h9; exact h9)
theorem r_ishr {K : zK} {X : zX} {cc : ByteArray} {own : String} {ret : Option FieldType} {nL f pc : Nat} {lo : List (Nat × Value)} {st : List Value} {ct : zE} {x y : Int32} {z : Int} (O : zO K X cc own ret nL f) (hz : x >>> (y &&& 31) = iI z) (hd : decode cc pc = .ok (.ishr, 1)) (k : G K X nL (pc + 1) lo (.int (iI z) :: st) ct) : G K X nL pc lo (.int y :: .int x :: st) ct := by
  obtain ⟨l, D, A, ad, N, cI, cC, cS⟩ := K
  obtain ⟨p, e, R, s, m, args, below, meth, c, Q, cells, slots⟩ := X
  obtain ⟨hx, hb, hr, hml, hown, hts, hlk, hK, hZ, hI, hf1, hf2, hc1, hc2⟩ := O
  intro H locs ls hP hS hl
  refine lv_ishr hx hb hd ?_
  first | (rw [hz]; exact (k H locs ls hP hS hl)) | (have h9 := (k H locs ls hP hS hl); rw [← hz] at h9; exact h9)
theorem r_i2c {K : zK} {X : zX} {cc : ByteArray} {own : String} {ret : Option FieldType} {nL f pc : Nat} {lo : List (Nat × Value)} {st : List Value} {ct : zE} {x : Int32} {z : Int} (O : zO K X cc own ret nL f) (hz : (x.toUInt32 % 65536).toInt32 = iI z) (hd : decode cc pc = .ok (.i2c, 1)) (k : G K X nL (pc + 1) lo (.int (iI z) :: st) ct) : G K X nL pc lo (.int x :: st) ct := by
  obtain ⟨l, D, A, ad, N, cI, cC, cS⟩ := K
  obtain ⟨p, e, R, s, m, args, below, meth, c, Q, cells, slots⟩ := X
  obtain ⟨hx, hb, hr, hml, hown, hts, hlk, hK, hZ, hI, hf1, hf2, hc1, hc2⟩ := O
  intro H locs ls hP hS hl
  exact lv_i2c hx hb hd hz (k H locs ls hP hS hl)
theorem r_iushr {K : zK} {X : zX} {cc : ByteArray} {own : String} {ret : Option FieldType} {nL f pc : Nat} {lo : List (Nat × Value)} {st : List Value} {ct : zE} {x y : Int32} {z : Int} (O : zO K X cc own ret nL f) (hz : (x.toUInt32 >>> (y.toUInt32 &&& Int32.toUInt32 31)).toInt32 = iI z) (hd : decode cc pc = .ok (.iushr, 1)) (k : G K X nL (pc + 1) lo (.int (iI z) :: st) ct) : G K X nL pc lo (.int y :: .int x :: st) ct := by
  obtain ⟨l, D, A, ad, N, cI, cC, cS⟩ := K
  obtain ⟨p, e, R, s, m, args, below, meth, c, Q, cells, slots⟩ := X
  obtain ⟨hx, hb, hr, hml, hown, hts, hlk, hK, hZ, hI, hf1, hf2, hc1, hc2⟩ := O
  intro H locs ls hP hS hl
  exact lv_iushr hx hb hd hz (k H locs ls hP hS hl)
theorem r_i2l {K : zK} {X : zX} {cc : ByteArray} {own : String} {ret : Option FieldType} {nL f pc : Nat} {lo : List (Nat × Value)} {st : List Value} {ct : zE} {x : Int32} {v : Int64} (O : zO K X cc own ret nL f) (hz : x.toInt64 = v) (hd : decode cc pc = .ok (.i2l, 1)) (k : G K X nL (pc + 1) lo (.long v :: st) ct) : G K X nL pc lo (.int x :: st) ct := by
  obtain ⟨l, D, A, ad, N, cI, cC, cS⟩ := K
  obtain ⟨p, e, R, s, m, args, below, meth, c, Q, cells, slots⟩ := X
  obtain ⟨hx, hb, hr, hml, hown, hts, hlk, hK, hZ, hI, hf1, hf2, hc1, hc2⟩ := O
  intro H locs ls hP hS hl
  exact lv_i2l hx hb hd hz (k H locs ls hP hS hl)
theorem r_l2i {K : zK} {X : zX} {cc : ByteArray} {own : String} {ret : Option FieldType} {nL f pc : Nat} {lo : List (Nat × Value)} {st : List Value} {ct : zE} {x : Int64} {z : Int} (O : zO K X cc own ret nL f) (hz : x.toInt32 = iI z) (hd : decode cc pc = .ok (.l2i, 1)) (k : G K X nL (pc + 1) lo (.int (iI z) :: st) ct) : G K X nL pc lo (.long x :: st) ct := by
  obtain ⟨l, D, A, ad, N, cI, cC, cS⟩ := K
  obtain ⟨p, e, R, s, m, args, below, meth, c, Q, cells, slots⟩ := X
  obtain ⟨hx, hb, hr, hml, hown, hts, hlk, hK, hZ, hI, hf1, hf2, hc1, hc2⟩ := O
  intro H locs ls hP hS hl
  exact lv_l2i hx hb hd hz (k H locs ls hP hS hl)
theorem r_ladd {K : zK} {X : zX} {cc : ByteArray} {own : String} {ret : Option FieldType} {nL f pc : Nat} {lo : List (Nat × Value)} {st : List Value} {ct : zE} {x y v : Int64} (O : zO K X cc own ret nL f) (hz : x + y = v) (hd : decode cc pc = .ok (.ladd, 1)) (k : G K X nL (pc + 1) lo (.long v :: st) ct) : G K X nL pc lo (.long y :: .long x :: st) ct := by
  obtain ⟨l, D, A, ad, N, cI, cC, cS⟩ := K
  obtain ⟨p, e, R, s, m, args, below, meth, c, Q, cells, slots⟩ := X
  obtain ⟨hx, hb, hr, hml, hown, hts, hlk, hK, hZ, hI, hf1, hf2, hc1, hc2⟩ := O
  intro H locs ls hP hS hl
  refine lv_ladd hx hb hd ?_
  rw [hz]
  exact (k H locs ls hP hS hl)
theorem r_lmul {K : zK} {X : zX} {cc : ByteArray} {own : String} {ret : Option FieldType} {nL f pc : Nat} {lo : List (Nat × Value)} {st : List Value} {ct : zE} {x y v : Int64} (O : zO K X cc own ret nL f) (hz : x * y = v) (hd : decode cc pc = .ok (.lmul, 1)) (k : G K X nL (pc + 1) lo (.long v :: st) ct) : G K X nL pc lo (.long y :: .long x :: st) ct := by
  obtain ⟨l, D, A, ad, N, cI, cC, cS⟩ := K
  obtain ⟨p, e, R, s, m, args, below, meth, c, Q, cells, slots⟩ := X
  obtain ⟨hx, hb, hr, hml, hown, hts, hlk, hK, hZ, hI, hf1, hf2, hc1, hc2⟩ := O
  intro H locs ls hP hS hl
  refine lv_lmul hx hb hd ?_
  rw [hz]
  exact (k H locs ls hP hS hl)
theorem r_ldiv {K : zK} {X : zX} {cc : ByteArray} {own : String} {ret : Option FieldType} {nL f pc : Nat} {lo : List (Nat × Value)} {st : List Value} {ct : zE} {x y v : Int64} (O : zO K X cc own ret nL f) (hne : ¬ y = 0) (hz : x / y = v) (hd : decode cc pc = .ok (.ldiv, 1)) (k : G K X nL (pc + 1) lo (.long v :: st) ct) : G K X nL pc lo (.long y :: .long x :: st) ct := by
  obtain ⟨l, D, A, ad, N, cI, cC, cS⟩ := K
  obtain ⟨p, e, R, s, m, args, below, meth, c, Q, cells, slots⟩ := X
  obtain ⟨hx, hb, hr, hml, hown, hts, hlk, hK, hZ, hI, hf1, hf2, hc1, hc2⟩ := O
  intro H locs ls hP hS hl
  refine lv_ldiv hx hb hd hne ?_
  first | (rw [hz]; exact (k H locs ls hP hS hl)) | (have h9 := (k H locs ls hP hS hl); rw [← hz] at h9; exact h9)
theorem r_lrem {K : zK} {X : zX} {cc : ByteArray} {own : String} {ret : Option FieldType} {nL f pc : Nat} {lo : List (Nat × Value)} {st : List Value} {ct : zE} {x y v : Int64} (O : zO K X cc own ret nL f) (hne : ¬ y = 0) (hz : x - x / y * y = v) (hd : decode cc pc = .ok (.lrem, 1)) (k : G K X nL (pc + 1) lo (.long v :: st) ct) : G K X nL pc lo (.long y :: .long x :: st) ct := by
  obtain ⟨l, D, A, ad, N, cI, cC, cS⟩ := K
  obtain ⟨p, e, R, s, m, args, below, meth, c, Q, cells, slots⟩ := X
  obtain ⟨hx, hb, hr, hml, hown, hts, hlk, hK, hZ, hI, hf1, hf2, hc1, hc2⟩ := O
  intro H locs ls hP hS hl
  refine lv_lrem hx hb hd hne ?_
  first | (rw [hz]; exact (k H locs ls hP hS hl)) | (have h9 := (k H locs ls hP hS hl); rw [← hz] at h9; exact h9)
theorem r_lconst {K : zK} {X : zX} {cc : ByteArray} {own : String} {ret : Option FieldType} {nL f pc : Nat} {lo : List (Nat × Value)} {st : List Value} {ct : zE} {n : Fin 2} {v : Int64} (O : zO K X cc own ret nL f) (hv : Int64.ofNat (n : Nat) = v) (hd : decode cc pc = .ok (.lconst n, 1)) (k : G K X nL (pc + 1) lo (.long v :: st) ct) : G K X nL pc lo st ct := by
  obtain ⟨l, D, A, ad, N, cI, cC, cS⟩ := K
  obtain ⟨p, e, R, s, m, args, below, meth, c, Q, cells, slots⟩ := X
  obtain ⟨hx, hb, hr, hml, hown, hts, hlk, hK, hZ, hI, hf1, hf2, hc1, hc2⟩ := O
  intro H locs ls hP hS hl
  exact lv_lconst hx hb hd hv (k H locs ls hP hS hl)
theorem r_dup {K : zK} {X : zX} {cc : ByteArray} {own : String} {ret : Option FieldType} {nL f pc : Nat} {lo : List (Nat × Value)} {st : List Value} {ct : zE} {v : Value} (O : zO K X cc own ret nL f) (hv : v.category = 1) (hd : decode cc pc = .ok (.dup, 1)) (k : G K X nL (pc + 1) lo (v :: v :: st) ct) : G K X nL pc lo (v :: st) ct := by
  obtain ⟨l, D, A, ad, N, cI, cC, cS⟩ := K
  obtain ⟨p, e, R, s, m, args, below, meth, c, Q, cells, slots⟩ := X
  obtain ⟨hx, hb, hr, hml, hown, hts, hlk, hK, hZ, hI, hf1, hf2, hc1, hc2⟩ := O
  intro H locs ls hP hS hl
  exact lv_dup hx hb hd hv (k H locs ls hP hS hl)
theorem r_pop {K : zK} {X : zX} {cc : ByteArray} {own : String} {ret : Option FieldType} {nL f pc : Nat} {lo : List (Nat × Value)} {st : List Value} {ct : zE} {v : Value} (O : zO K X cc own ret nL f) (hv : v.category = 1) (hd : decode cc pc = .ok (.pop, 1)) (k : G K X nL (pc + 1) lo st ct) : G K X nL pc lo (v :: st) ct := by
  obtain ⟨l, D, A, ad, N, cI, cC, cS⟩ := K
  obtain ⟨p, e, R, s, m, args, below, meth, c, Q, cells, slots⟩ := X
  obtain ⟨hx, hb, hr, hml, hown, hts, hlk, hK, hZ, hI, hf1, hf2, hc1, hc2⟩ := O
  intro H locs ls hP hS hl
  exact lv_pop hx hb hd hv (k H locs ls hP hS hl)
theorem r_dup2 {K : zK} {X : zX} {cc : ByteArray} {own : String} {ret : Option FieldType} {nL f pc : Nat} {lo : List (Nat × Value)} {st : List Value} {ct : zE} {v u : Value} (O : zO K X cc own ret nL f) (hv : v.category = 1) (hu : u.category = 1) (hd : decode cc pc = .ok (.dup2, 1)) (k : G K X nL (pc + 1) lo (v :: u :: v :: u :: st) ct) : G K X nL pc lo (v :: u :: st) ct := by
  obtain ⟨l, D, A, ad, N, cI, cC, cS⟩ := K
  obtain ⟨p, e, R, s, m, args, below, meth, c, Q, cells, slots⟩ := X
  obtain ⟨hx, hb, hr, hml, hown, hts, hlk, hK, hZ, hI, hf1, hf2, hc1, hc2⟩ := O
  intro H locs ls hP hS hl
  exact lv_dup2_11 hx hb hd hv hu (k H locs ls hP hS hl)
theorem r_icmp_eq {K : zK} {X : zX} {cc : ByteArray} {own : String} {ret : Option FieldType} {nL f pc : Nat} {lo : List (Nat × Value)} {st : List Value} {ct : zE} {x y : Int} {off : Int} {tgt : Nat} (O : zO K X cc own ret nL f) (bx : zB x) (bz : zB y) (hd : decode cc pc = .ok (.if_icmp .eq off, 3)) (ht : (pc : Int) + off = (tgt : Int)) (kt : x = y → G K X nL tgt lo st ct) (kf : ¬ (x = y) → G K X nL (pc + 3) lo st ct) : G K X nL pc lo (.int (iI y) :: .int (iI x) :: st) ct := by
  obtain ⟨l, D, A, ad, N, cI, cC, cS⟩ := K
  obtain ⟨p, e, R, s, m, args, below, meth, c, Q, cells, slots⟩ := X
  obtain ⟨hx, hb, hr, hml, hown, hts, hlk, hK, hZ, hI, hf1, hf2, hc1, hc2⟩ := O
  intro H locs ls hP hS hl
  exact lv_icmp_eq hx hb hd ht (fun h => kt ((iI_inj bx bz).mp h) H locs ls hP hS hl) (fun h => kf (fun q => h ((iI_inj bx bz).mpr q)) H locs ls hP hS hl)
theorem r_if_eq {K : zK} {X : zX} {cc : ByteArray} {own : String} {ret : Option FieldType} {nL f pc : Nat} {lo : List (Nat × Value)} {st : List Value} {ct : zE} {x : Int} {off : Int} {tgt : Nat} (O : zO K X cc own ret nL f) (bx : zB x) (hd : decode cc pc = .ok (.ifCond .eq off, 3)) (ht : (pc : Int) + off = (tgt : Int)) (kt : x = 0 → G K X nL tgt lo st ct) (kf : ¬ (x = 0) → G K X nL (pc + 3) lo st ct) : G K X nL pc lo (.int (iI x) :: st) ct := by
  obtain ⟨l, D, A, ad, N, cI, cC, cS⟩ := K
  obtain ⟨p, e, R, s, m, args, below, meth, c, Q, cells, slots⟩ := X
  obtain ⟨hx, hb, hr, hml, hown, hts, hlk, hK, hZ, hI, hf1, hf2, hc1, hc2⟩ := O
  intro H locs ls hP hS hl
  have bz : zB 0 := ⟨by decide, by decide⟩
  exact lv_if_eq hx hb hd ht (fun h => kt ((iI_inj bx bz).mp h) H locs ls hP hS hl) (fun h => kf (fun q => h ((iI_inj bx bz).mpr q)) H locs ls hP hS hl)
theorem r_icmp_ne {K : zK} {X : zX} {cc : ByteArray} {own : String} {ret : Option FieldType} {nL f pc : Nat} {lo : List (Nat × Value)} {st : List Value} {ct : zE} {x y : Int} {off : Int} {tgt : Nat} (O : zO K X cc own ret nL f) (bx : zB x) (bz : zB y) (hd : decode cc pc = .ok (.if_icmp .ne off, 3)) (ht : (pc : Int) + off = (tgt : Int)) (kt : x ≠ y → G K X nL tgt lo st ct) (kf : ¬ (x ≠ y) → G K X nL (pc + 3) lo st ct) : G K X nL pc lo (.int (iI y) :: .int (iI x) :: st) ct := by
  obtain ⟨l, D, A, ad, N, cI, cC, cS⟩ := K
  obtain ⟨p, e, R, s, m, args, below, meth, c, Q, cells, slots⟩ := X
  obtain ⟨hx, hb, hr, hml, hown, hts, hlk, hK, hZ, hI, hf1, hf2, hc1, hc2⟩ := O
  intro H locs ls hP hS hl
  exact lv_icmp_ne hx hb hd ht (fun h => kt (fun q => h (by rw [q])) H locs ls hP hS hl) (fun h => kf (fun q => q ((iI_inj bx bz).mp h)) H locs ls hP hS hl)
theorem r_if_ne {K : zK} {X : zX} {cc : ByteArray} {own : String} {ret : Option FieldType} {nL f pc : Nat} {lo : List (Nat × Value)} {st : List Value} {ct : zE} {x : Int} {off : Int} {tgt : Nat} (O : zO K X cc own ret nL f) (bx : zB x) (hd : decode cc pc = .ok (.ifCond .ne off, 3)) (ht : (pc : Int) + off = (tgt : Int)) (kt : x ≠ 0 → G K X nL tgt lo st ct) (kf : ¬ (x ≠ 0) → G K X nL (pc + 3) lo st ct) : G K X nL pc lo (.int (iI x) :: st) ct := by
  obtain ⟨l, D, A, ad, N, cI, cC, cS⟩ := K
  obtain ⟨p, e, R, s, m, args, below, meth, c, Q, cells, slots⟩ := X
  obtain ⟨hx, hb, hr, hml, hown, hts, hlk, hK, hZ, hI, hf1, hf2, hc1, hc2⟩ := O
  intro H locs ls hP hS hl
  have bz : zB 0 := ⟨by decide, by decide⟩
  exact lv_if_ne hx hb hd ht (fun h => kt (fun q => h (by rw [q]; rfl)) H locs ls hP hS hl) (fun h => kf (fun q => q ((iI_inj bx bz).mp h)) H locs ls hP hS hl)
theorem r_icmp_lt {K : zK} {X : zX} {cc : ByteArray} {own : String} {ret : Option FieldType} {nL f pc : Nat} {lo : List (Nat × Value)} {st : List Value} {ct : zE} {x y : Int} {off : Int} {tgt : Nat} (O : zO K X cc own ret nL f) (bx : zB x) (bz : zB y) (hd : decode cc pc = .ok (.if_icmp .lt off, 3)) (ht : (pc : Int) + off = (tgt : Int)) (kt : x < y → G K X nL tgt lo st ct) (kf : ¬ (x < y) → G K X nL (pc + 3) lo st ct) : G K X nL pc lo (.int (iI y) :: .int (iI x) :: st) ct := by
  obtain ⟨l, D, A, ad, N, cI, cC, cS⟩ := K
  obtain ⟨p, e, R, s, m, args, below, meth, c, Q, cells, slots⟩ := X
  obtain ⟨hx, hb, hr, hml, hown, hts, hlk, hK, hZ, hI, hf1, hf2, hc1, hc2⟩ := O
  intro H locs ls hP hS hl
  exact lv_icmp_lt hx hb hd ht (fun h => kt ((iI_lt bx bz).mp h) H locs ls hP hS hl) (fun h => kf (fun q => h ((iI_lt bx bz).mpr q)) H locs ls hP hS hl)
theorem r_if_lt {K : zK} {X : zX} {cc : ByteArray} {own : String} {ret : Option FieldType} {nL f pc : Nat} {lo : List (Nat × Value)} {st : List Value} {ct : zE} {x : Int} {off : Int} {tgt : Nat} (O : zO K X cc own ret nL f) (bx : zB x) (hd : decode cc pc = .ok (.ifCond .lt off, 3)) (ht : (pc : Int) + off = (tgt : Int)) (kt : x < 0 → G K X nL tgt lo st ct) (kf : ¬ (x < 0) → G K X nL (pc + 3) lo st ct) : G K X nL pc lo (.int (iI x) :: st) ct := by
  obtain ⟨l, D, A, ad, N, cI, cC, cS⟩ := K
  obtain ⟨p, e, R, s, m, args, below, meth, c, Q, cells, slots⟩ := X
  obtain ⟨hx, hb, hr, hml, hown, hts, hlk, hK, hZ, hI, hf1, hf2, hc1, hc2⟩ := O
  intro H locs ls hP hS hl
  have bz : zB 0 := ⟨by decide, by decide⟩
  exact lv_if_lt hx hb hd ht (fun h => kt ((iI_lt bx bz).mp h) H locs ls hP hS hl) (fun h => kf (fun q => h ((iI_lt bx bz).mpr q)) H locs ls hP hS hl)
theorem r_icmp_ge {K : zK} {X : zX} {cc : ByteArray} {own : String} {ret : Option FieldType} {nL f pc : Nat} {lo : List (Nat × Value)} {st : List Value} {ct : zE} {x y : Int} {off : Int} {tgt : Nat} (O : zO K X cc own ret nL f) (bx : zB x) (bz : zB y) (hd : decode cc pc = .ok (.if_icmp .ge off, 3)) (ht : (pc : Int) + off = (tgt : Int)) (kt : y ≤ x → G K X nL tgt lo st ct) (kf : ¬ (y ≤ x) → G K X nL (pc + 3) lo st ct) : G K X nL pc lo (.int (iI y) :: .int (iI x) :: st) ct := by
  obtain ⟨l, D, A, ad, N, cI, cC, cS⟩ := K
  obtain ⟨p, e, R, s, m, args, below, meth, c, Q, cells, slots⟩ := X
  obtain ⟨hx, hb, hr, hml, hown, hts, hlk, hK, hZ, hI, hf1, hf2, hc1, hc2⟩ := O
  intro H locs ls hP hS hl
  exact lv_icmp_ge hx hb hd ht (fun h => kt ((iI_le bz bx).mp h) H locs ls hP hS hl) (fun h => kf (fun q => h ((iI_le bz bx).mpr q)) H locs ls hP hS hl)
theorem r_if_ge {K : zK} {X : zX} {cc : ByteArray} {own : String} {ret : Option FieldType} {nL f pc : Nat} {lo : List (Nat × Value)} {st : List Value} {ct : zE} {x : Int} {off : Int} {tgt : Nat} (O : zO K X cc own ret nL f) (bx : zB x) (hd : decode cc pc = .ok (.ifCond .ge off, 3)) (ht : (pc : Int) + off = (tgt : Int)) (kt : 0 ≤ x → G K X nL tgt lo st ct) (kf : ¬ (0 ≤ x) → G K X nL (pc + 3) lo st ct) : G K X nL pc lo (.int (iI x) :: st) ct := by
  obtain ⟨l, D, A, ad, N, cI, cC, cS⟩ := K
  obtain ⟨p, e, R, s, m, args, below, meth, c, Q, cells, slots⟩ := X
  obtain ⟨hx, hb, hr, hml, hown, hts, hlk, hK, hZ, hI, hf1, hf2, hc1, hc2⟩ := O
  intro H locs ls hP hS hl
  have bz : zB 0 := ⟨by decide, by decide⟩
  exact lv_if_ge hx hb hd ht (fun h => kt ((iI_le bz bx).mp h) H locs ls hP hS hl) (fun h => kf (fun q => h ((iI_le bz bx).mpr q)) H locs ls hP hS hl)
theorem r_icmp_gt {K : zK} {X : zX} {cc : ByteArray} {own : String} {ret : Option FieldType} {nL f pc : Nat} {lo : List (Nat × Value)} {st : List Value} {ct : zE} {x y : Int} {off : Int} {tgt : Nat} (O : zO K X cc own ret nL f) (bx : zB x) (bz : zB y) (hd : decode cc pc = .ok (.if_icmp .gt off, 3)) (ht : (pc : Int) + off = (tgt : Int)) (kt : y < x → G K X nL tgt lo st ct) (kf : ¬ (y < x) → G K X nL (pc + 3) lo st ct) : G K X nL pc lo (.int (iI y) :: .int (iI x) :: st) ct := by
  obtain ⟨l, D, A, ad, N, cI, cC, cS⟩ := K
  obtain ⟨p, e, R, s, m, args, below, meth, c, Q, cells, slots⟩ := X
  obtain ⟨hx, hb, hr, hml, hown, hts, hlk, hK, hZ, hI, hf1, hf2, hc1, hc2⟩ := O
  intro H locs ls hP hS hl
  exact lv_icmp_gt hx hb hd ht (fun h => kt ((iI_lt bz bx).mp h) H locs ls hP hS hl) (fun h => kf (fun q => h ((iI_lt bz bx).mpr q)) H locs ls hP hS hl)
theorem r_if_gt {K : zK} {X : zX} {cc : ByteArray} {own : String} {ret : Option FieldType} {nL f pc : Nat} {lo : List (Nat × Value)} {st : List Value} {ct : zE} {x : Int} {off : Int} {tgt : Nat} (O : zO K X cc own ret nL f) (bx : zB x) (hd : decode cc pc = .ok (.ifCond .gt off, 3)) (ht : (pc : Int) + off = (tgt : Int)) (kt : 0 < x → G K X nL tgt lo st ct) (kf : ¬ (0 < x) → G K X nL (pc + 3) lo st ct) : G K X nL pc lo (.int (iI x) :: st) ct := by
  obtain ⟨l, D, A, ad, N, cI, cC, cS⟩ := K
  obtain ⟨p, e, R, s, m, args, below, meth, c, Q, cells, slots⟩ := X
  obtain ⟨hx, hb, hr, hml, hown, hts, hlk, hK, hZ, hI, hf1, hf2, hc1, hc2⟩ := O
  intro H locs ls hP hS hl
  have bz : zB 0 := ⟨by decide, by decide⟩
  exact lv_if_gt hx hb hd ht (fun h => kt ((iI_lt bz bx).mp h) H locs ls hP hS hl) (fun h => kf (fun q => h ((iI_lt bz bx).mpr q)) H locs ls hP hS hl)
theorem r_icmp_le {K : zK} {X : zX} {cc : ByteArray} {own : String} {ret : Option FieldType} {nL f pc : Nat} {lo : List (Nat × Value)} {st : List Value} {ct : zE} {x y : Int} {off : Int} {tgt : Nat} (O : zO K X cc own ret nL f) (bx : zB x) (bz : zB y) (hd : decode cc pc = .ok (.if_icmp .le off, 3)) (ht : (pc : Int) + off = (tgt : Int)) (kt : x ≤ y → G K X nL tgt lo st ct) (kf : ¬ (x ≤ y) → G K X nL (pc + 3) lo st ct) : G K X nL pc lo (.int (iI y) :: .int (iI x) :: st) ct := by
  obtain ⟨l, D, A, ad, N, cI, cC, cS⟩ := K
  obtain ⟨p, e, R, s, m, args, below, meth, c, Q, cells, slots⟩ := X
  obtain ⟨hx, hb, hr, hml, hown, hts, hlk, hK, hZ, hI, hf1, hf2, hc1, hc2⟩ := O
  intro H locs ls hP hS hl
  exact lv_icmp_le hx hb hd ht (fun h => kt ((iI_le bx bz).mp h) H locs ls hP hS hl) (fun h => kf (fun q => h ((iI_le bx bz).mpr q)) H locs ls hP hS hl)
theorem r_if_le {K : zK} {X : zX} {cc : ByteArray} {own : String} {ret : Option FieldType} {nL f pc : Nat} {lo : List (Nat × Value)} {st : List Value} {ct : zE} {x : Int} {off : Int} {tgt : Nat} (O : zO K X cc own ret nL f) (bx : zB x) (hd : decode cc pc = .ok (.ifCond .le off, 3)) (ht : (pc : Int) + off = (tgt : Int)) (kt : x ≤ 0 → G K X nL tgt lo st ct) (kf : ¬ (x ≤ 0) → G K X nL (pc + 3) lo st ct) : G K X nL pc lo (.int (iI x) :: st) ct := by
  obtain ⟨l, D, A, ad, N, cI, cC, cS⟩ := K
  obtain ⟨p, e, R, s, m, args, below, meth, c, Q, cells, slots⟩ := X
  obtain ⟨hx, hb, hr, hml, hown, hts, hlk, hK, hZ, hI, hf1, hf2, hc1, hc2⟩ := O
  intro H locs ls hP hS hl
  have bz : zB 0 := ⟨by decide, by decide⟩
  exact lv_if_le hx hb hd ht (fun h => kt ((iI_le bx bz).mp h) H locs ls hP hS hl) (fun h => kf (fun q => h ((iI_le bx bz).mpr q)) H locs ls hP hS hl)
theorem r_goto {K : zK} {X : zX} {cc : ByteArray} {own : String} {ret : Option FieldType} {nL f pc : Nat} {lo : List (Nat × Value)} {st : List Value} {ct : zE} {off : Int} {tgt : Nat} (O : zO K X cc own ret nL f) (hd : decode cc pc = .ok (.goto off, 3)) (ht : (pc : Int) + off = (tgt : Int)) (k : G K X nL tgt lo st ct) : G K X nL pc lo st ct := by
  obtain ⟨l, D, A, ad, N, cI, cC, cS⟩ := K
  obtain ⟨p, e, R, s, m, args, below, meth, c, Q, cells, slots⟩ := X
  obtain ⟨hx, hb, hr, hml, hown, hts, hlk, hK, hZ, hI, hf1, hf2, hc1, hc2⟩ := O
  intro H locs ls hP hS hl
  exact lv_goto hx hb hd ht (k H locs ls hP hS hl)
theorem r_tabIn {K : zK} {X : zX} {cc : ByteArray} {own : String} {ret : Option FieldType} {nL f pc : Nat} {lo : List (Nat × Value)} {st : List Value} {ct : zE} {dflt lo1 hi1 : Int} {offs : Array Int} {len : Nat} {x off : Int} {tgt : Nat} (O : zO K X cc own ret nL f) (bx : zB x) (hd : decode cc pc = .ok (.tableswitch dflt lo1 hi1 offs, len)) (h1 : lo1 ≤ x) (h2 : x ≤ hi1) (ho : offs[(x - lo1).toNat]? = some off) (ht : (pc : Int) + off = (tgt : Int)) (k : G K X nL tgt lo st ct) : G K X nL pc lo (.int (iI x) :: st) ct := by
  obtain ⟨l, D, A, ad, N, cI, cC, cS⟩ := K
  obtain ⟨p, e, R, s, m, args, below, meth, c, Q, cells, slots⟩ := X
  obtain ⟨hx, hb, hr, hml, hown, hts, hlk, hK, hZ, hI, hf1, hf2, hc1, hc2⟩ := O
  intro H locs ls hP hS hl
  have e1 := iI_toInt bx
  exact lv_tableIn hx hb hd (by rw [e1]; omega) (by rw [e1]; omega) (by rw [e1]; exact ho) ht (k H locs ls hP hS hl)
theorem r_tabOut {K : zK} {X : zX} {cc : ByteArray} {own : String} {ret : Option FieldType} {nL f pc : Nat} {lo : List (Nat × Value)} {st : List Value} {ct : zE} {dflt lo1 hi1 : Int} {offs : Array Int} {len : Nat} {x : Int} {tgt : Nat} (O : zO K X cc own ret nL f) (bx : zB x) (hd : decode cc pc = .ok (.tableswitch dflt lo1 hi1 offs, len)) (h : x < lo1 ∨ hi1 < x) (ht : (pc : Int) + dflt = (tgt : Int)) (k : G K X nL tgt lo st ct) : G K X nL pc lo (.int (iI x) :: st) ct := by
  obtain ⟨l, D, A, ad, N, cI, cC, cS⟩ := K
  obtain ⟨p, e, R, s, m, args, below, meth, c, Q, cells, slots⟩ := X
  obtain ⟨hx, hb, hr, hml, hown, hts, hlk, hK, hZ, hI, hf1, hf2, hc1, hc2⟩ := O
  intro H locs ls hP hS hl
  have e1 := iI_toInt bx
  exact lv_tableOut hx hb hd (by rw [e1]; exact h) ht (k H locs ls hP hS hl)
theorem r_look {K : zK} {X : zX} {cc : ByteArray} {own : String} {ret : Option FieldType} {nL f pc : Nat} {lo : List (Nat × Value)} {st : List Value} {ct : zE} {dflt : Int} {ps : Array (Int × Int)} {len : Nat} {x off : Int} {tgt : Nat} (O : zO K X cc own ret nL f) (bx : zB x) (hd : decode cc pc = .ok (.lookupswitch dflt ps, len)) (hp : (ps.toList.zip (ps.toList.drop 1)).all (fun (a, next) => a.1 < next.1) = true) (ho : Op.lookupswitch.offset ps.toList dflt x = off) (ht : (pc : Int) + off = (tgt : Int)) (k : G K X nL tgt lo st ct) : G K X nL pc lo (.int (iI x) :: st) ct := by
  obtain ⟨l, D, A, ad, N, cI, cC, cS⟩ := K
  obtain ⟨p, e, R, s, m, args, below, meth, c, Q, cells, slots⟩ := X
  obtain ⟨hx, hb, hr, hml, hown, hts, hlk, hK, hZ, hI, hf1, hf2, hc1, hc2⟩ := O
  intro H locs ls hP hS hl
  have e1 := iI_toInt bx
  exact lv_lookup hx hb hd hp (by rw [e1]; exact ho) ht (k H locs ls hP hS hl)
/-- a class of the worlds: its place, its fields, its words -/
def zCl (ci : Nat) (C : String) (T : u_T) (n : Nat) : Prop := vwCl[ci]? = some (C, T, n) ∧ (∀ w ∈ u_ws C T n, w ∈ zTB) ∧ (∃ ty : Nat → FieldType, ∀ k, k < n → parseFieldDescriptor (T k).2.2.1 = some (ty k)) ∧ (∀ a, a < n → ∀ b, b < n → a ≠ b → (T a).2.1 ≠ (T b).2.1) ∧ ∀ k, k < n → (T k).1 = C
theorem zCl0 : zCl 0 RX0 TX0 2 := ⟨rfl, inX0, ⟨tyX0, tyX0_ok⟩, nmX0, by decide +kernel⟩
theorem zCl1 : zCl 1 RX1 TX1 3 := ⟨rfl, inX1, ⟨tyX1, tyX1_ok⟩, nmX1, by decide +kernel⟩
theorem zCl2 : zCl 2 RX2 TX2 3 := ⟨rfl, inX2, ⟨tyX2, tyX2_ok⟩, nmX2, by decide +kernel⟩
theorem zCl3 : zCl 3 RX3 TX3 11 := ⟨rfl, inX3, ⟨tyX3, tyX3_ok⟩, nmX3, by decide +kernel⟩
theorem zCl4 : zCl 4 RX4 TX4 3 := ⟨rfl, inX4, ⟨tyX4, tyX4_ok⟩, nmX4, by decide +kernel⟩
theorem zCl5 : zCl 5 RX5 TX5 7 := ⟨rfl, inX5, ⟨tyX5, tyX5_ok⟩, nmX5, by decide +kernel⟩
theorem zCl6 : zCl 6 RX6 TX6 16 := ⟨rfl, inX6, ⟨tyX6, tyX6_ok⟩, nmX6, by decide +kernel⟩
theorem r_get {K : zK} {X : zX} {cc : ByteArray} {own : String} {ret : Option FieldType} {nL f pc : Nat} {lo : List (Nat × Value)} {st : List Value} {ct : zE} {a ci n fi index : Nat} {C : String} {T : u_T} {fs : List Value} {v : Value} (O : zO K X cc own ret nL f) (ha : a < kN K) (he : ct a = .inr (ci, fs)) (hC : zCl ci C T n) (hw : Cond.fieldLink own index C (T fi).2.1 (T fi).2.2.1 ∈ zTB) (hn : fi < n) (hv : fs[fi]? = some v) (hd : decode cc pc = .ok (.getfield index, 3)) (k : G K X nL (pc + 3) lo (v :: st) ct) : G K X nL pc lo (.ref (kad K a) :: st) ct := by
  obtain ⟨l, D, A, ad, N, cI, cC, cS⟩ := K
  obtain ⟨p, e, R, s, m, args, below, meth, c, Q, cells, slots⟩ := X
  obtain ⟨hx, hb, hr, hml, hown, hts, hlk, hK, hZ, hI, hf1, hf2, hc1, hc2⟩ := O
  intro H locs ls hP hS hl
  exact va_get (tys := _) hx hb hts hC.2.1 hown hK hP a (fs := fs) ((zwl_at ha).trans (by rw [he])) hC.1 fi hn (hts _ hw) (fun _ h9 => by rw [hC.2.2.2.2 fi hn] at h9; exact h9) hv hd (k H locs ls hP hS hl)
theorem r_put {K : zK} {X : zX} {cc : ByteArray} {own : String} {ret : Option FieldType} {nL f pc : Nat} {lo : List (Nat × Value)} {st : List Value} {ct : zE} {a ci n fi index : Nat} {C : String} {T : u_T} {fs : List Value} {v : Value} {ty : FieldType} (O : zO K X cc own ret nL f) (ha : a < kN K) (he : ct a = .inr (ci, fs)) (hC : zCl ci C T n) (hw : Cond.fieldLink own index C (T fi).2.1 (T fi).2.2.1 ∈ zTB) (hn : fi < n) (hfin : (T fi).2.2.2 = false) (hty : parseFieldDescriptor (T fi).2.2.1 = some ty) (hnr : narrow ty v = v) (hfit : fits ty v = true) (hl2 : fi < fs.length) (hd : decode cc pc = .ok (.putfield index, 3)) (k : G K X nL (pc + 3) lo st (zup ct a (.inr (ci, fs.set fi v)))) : G K X nL pc lo (v :: .ref (kad K a) :: st) ct := by
  obtain ⟨l, D, A, ad, N, cI, cC, cS⟩ := K
  obtain ⟨p, e, R, s, m, args, below, meth, c, Q, cells, slots⟩ := X
  obtain ⟨hx, hb, hr, hml, hown, hts, hlk, hK, hZ, hI, hf1, hf2, hc1, hc2⟩ := O
  intro H locs ls hP hS hl
  obtain ⟨ty0, hty0⟩ := hC.2.2.1
  refine va_put (tys := _) hx hb hts hC.2.1 ty0 hty0 hC.2.2.2.1 hown hK hP (zwl_D hI ct) hS a (fs := fs) ((zwl_at ha).trans (by rw [he])) hC.1 fi hn (hts _ hw) (fun _ h9 => by rw [hC.2.2.2.2 fi hn] at h9; exact h9) hfin hty hnr hfit hl2 hd (fun H1 locs1 hP1 _ hS1 => ?_)
  refine k H1 locs1 ls ?_ hS1 hl
  have e9 := zwl_set (K := (l, D, A, ad, N, cI, cC, cS)) (ct := ct) (k := a) (.inr (ci, fs.set fi v))
  exact e9 ▸ hP1
theorem r_iald {K : zK} {X : zX} {cc : ByteArray} {own : String} {ret : Option FieldType} {nL f pc : Nat} {lo : List (Nat × Value)} {st : List Value} {ct : zE} {a n : Nat} {g : Int → Int} {z : Int} (O : zO K X cc own ret nL f) (ha : a < kN K) (he : ct a = .inl (kI K, n, .inl (aI g))) (h0 : 0 ≤ z) (h1 : z < n) (hn : n < 2147483648) (hd : decode cc pc = .ok (.iaload, 1)) (k : G K X nL (pc + 1) lo (.int (iI (g z)) :: st) ct) : G K X nL pc lo (.int (iI z) :: .ref (kad K a) :: st) ct := by
  obtain ⟨l, D, A, ad, N, cI, cC, cS⟩ := K
  obtain ⟨p, e, R, s, m, args, below, meth, c, Q, cells, slots⟩ := X
  obtain ⟨hx, hb, hr, hml, hown, hts, hlk, hK, hZ, hI, hf1, hf2, hc1, hc2⟩ := O
  intro H locs ls hP hS hl
  refine va_iald (tys := _) hx hb hK hP a 0 ((zwl_at ha).trans (by rw [he])) rfl (iI_in h0 h1 hn) hd ?_
  rw [aI_rd g h0 (by omega)]
  exact (k H locs ls hP hS hl)
theorem r_cald {K : zK} {X : zX} {cc : ByteArray} {own : String} {ret : Option FieldType} {nL f pc : Nat} {lo : List (Nat × Value)} {st : List Value} {ct : zE} {a n : Nat} {g : Int → Int} {z : Int} (O : zO K X cc own ret nL f) (ha : a < kN K) (he : ct a = .inl (kC K, n, .inl (aI g))) (h0 : 0 ≤ z) (h1 : z < n) (hn : n < 2147483648) (hd : decode cc pc = .ok (.caload, 1)) (k : G K X nL (pc + 1) lo (.int (iI (g z)) :: st) ct) : G K X nL pc lo (.int (iI z) :: .ref (kad K a) :: st) ct := by
  obtain ⟨l, D, A, ad, N, cI, cC, cS⟩ := K
  obtain ⟨p, e, R, s, m, args, below, meth, c, Q, cells, slots⟩ := X
  obtain ⟨hx, hb, hr, hml, hown, hts, hlk, hK, hZ, hI, hf1, hf2, hc1, hc2⟩ := O
  intro H locs ls hP hS hl
  refine va_cald (tys := _) hx hb hK hP a 1 ((zwl_at ha).trans (by rw [he])) rfl (iI_in h0 h1 hn) hd ?_
  rw [aI_rd g h0 (by omega)]
  exact (k H locs ls hP hS hl)
theorem r_iast {K : zK} {X : zX} {cc : ByteArray} {own : String} {ret : Option FieldType} {nL f pc : Nat} {lo : List (Nat × Value)} {st : List Value} {ct : zE} {a n : Nat} {g : Int → Int} {z v : Int} (O : zO K X cc own ret nL f) (ha : a < kN K) (he : ct a = .inl (kI K, n, .inl (aI g))) (h0 : 0 ≤ z) (h1 : z < n) (hn : n < 2147483648) (hd : decode cc pc = .ok (.iastore, 1)) (k : G K X nL (pc + 1) lo st (zup ct a (.inl (kI K, n, .inl (aI (uI g z v)))))) : G K X nL pc lo (.int (iI v) :: .int (iI z) :: .ref (kad K a) :: st) ct := by
  obtain ⟨l, D, A, ad, N, cI, cC, cS⟩ := K
  obtain ⟨p, e, R, s, m, args, below, meth, c, Q, cells, slots⟩ := X
  obtain ⟨hx, hb, hr, hml, hown, hts, hlk, hK, hZ, hI, hf1, hf2, hc1, hc2⟩ := O
  intro H locs ls hP hS hl
  refine va_iast (tys := _) hx hb hK hP (zwl_D hI ct) hS a 0 ((zwl_at ha).trans (by rw [he])) rfl (iI_in h0 h1 hn) hd (fun H1 locs1 hP1 _ hS1 => ?_)
  refine k H1 locs1 ls ?_ hS1 hl
  rw [aI_up g v h0 (by omega)] at hP1
  have e9 := zwl_set (K := (l, D, A, ad, N, cI, cC, cS)) (ct := ct) (k := a) (.inl (cI, n, .inl (aI (uI g z v))))
  exact e9 ▸ hP1
theorem r_alen {K : zK} {X : zX} {cc : ByteArray} {own : String} {ret : Option FieldType} {nL f pc : Nat} {lo : List (Nat × Value)} {st : List Value} {ct : zE} {a : Nat} {cA : ClassId} {x : vp_A} {n : Nat} (O : zO K X cc own ret nL f) (ha : a < kN K) (he : ct a = .inl (cA, x)) (hty : cA = kI K ∨ cA = kC K ∨ cA = kS K) (hn : x.1 = n) (hd : decode cc pc = .ok (.arraylength, 1)) (k : G K X nL (pc + 1) lo (.int (iI (n : Int)) :: st) ct) : G K X nL pc lo (.ref (kad K a) :: st) ct := by
  obtain ⟨l, D, A, ad, N, cI, cC, cS⟩ := K
  obtain ⟨p, e, R, s, m, args, below, meth, c, Q, cells, slots⟩ := X
  obtain ⟨hx, hb, hr, hml, hown, hts, hlk, hK, hZ, hI, hf1, hf2, hc1, hc2⟩ := O
  intro H locs ls hP hS hl
  subst hn
  rcases hty with h | h | h
  · exact va_alen (tys := _) hx hb hK hP a 0 ((zwl_at ha).trans (by rw [he])) (by rw [h]; rfl) (iI_nat _) hd (k H locs ls hP hS hl)
  · exact va_alen (tys := _) hx hb hK hP a 1 ((zwl_at ha).trans (by rw [he])) (by rw [h]; rfl) (iI_nat _) hd (k H locs ls hP hS hl)
  · exact va_alen (tys := _) hx hb hK hP a 2 ((zwl_at ha).trans (by rw [he])) (by rw [h]; rfl) (iI_nat _) hd (k H locs ls hP hS hl)
/-- an array of references: by the cell that each place names -/
def rI (K : zK) (g : Int → Nat) : Nat → Option Nat := fun q => some (kad K (g (q : Int)))
def uN' (g : Int → Nat) (k : Int) (v : Nat) : Int → Nat := fun y => if y = k then v else g y
theorem rI_up (K : zK) (g : Int → Nat) {z : Int} (v : Nat) (h0 : 0 ≤ z) (h : z < 2147483648) : va_up (rI K g) (iI z).toNatClampNeg (some (kad K v)) = rI K (uN' g z v) := by
  funext q
  unfold va_up rI uN'
  rw [iI_cl h0 h]
  by_cases hq : q = z.toNat
  · have h2 : (q : Int) = z := by omega
    rw [if_pos hq, if_pos h2]
  · have h2 : ¬ (q : Int) = z := by omega
    rw [if_neg hq, if_neg h2]
def cpI (f g : Int → Int) (n : Int) : Int → Int := fun i => if 0 ≤ i ∧ i < n then f i else g i
theorem aI_cpy (f g : Int → Int) {n : Int} (h0 : 0 ≤ n) (h : n < 2147483648) : va_cpy (aI f) (aI g) (iI 0).toNatClampNeg (iI 0).toNatClampNeg (iI n).toNatClampNeg = aI (cpI f g n) := by
  funext q
  unfold va_cpy aI cpI
  rw [iI_cl (z := 0) (by omega) (by omega), iI_cl h0 h]
  by_cases hq : (q : Int) < n
  · rw [if_pos (by constructor <;> omega), if_pos ⟨by omega, hq⟩]
    simp
  · rw [if_neg (by omega), if_neg (by omega)]
theorem r_aald {K : zK} {X : zX} {cc : ByteArray} {own : String} {ret : Option FieldType} {nL f pc : Nat} {lo : List (Nat × Value)} {st : List Value} {ct : zE} {a n : Nat} {g : Int → Nat} {z : Int} (O : zO K X cc own ret nL f) (ha : a < kN K) (he : ct a = .inl (kS K, n, .inr (.inr (.inr (.inr (rI K g)))))) (h0 : 0 ≤ z) (h1 : z < n) (hn : n < 2147483648) (hd : decode cc pc = .ok (.aaload, 1)) (k : G K X nL (pc + 1) lo (.ref (kad K (g z)) :: st) ct) : G K X nL pc lo (.int (iI z) :: .ref (kad K a) :: st) ct := by
  obtain ⟨l, D, A, ad, N, cI, cC, cS⟩ := K
  obtain ⟨p, e, R, s, m, args, below, meth, c, Q, cells, slots⟩ := X
  obtain ⟨hx, hb, hr, hml, hown, hts, hlk, hK, hZ, hI, hf1, hf2, hc1, hc2⟩ := O
  intro H locs ls hP hS hl
  refine va_aldq (tys := _) hx hb hK hP a 2 ((zwl_at ha).trans (by rw [he])) rfl (iI_in h0 h1 hn) hd ?_
  have e9 : rI (l, D, A, ad, N, cI, cC, cS) g (iI z).toNatClampNeg = some (ad (g z)) := by
    unfold rI
    rw [iI_cl h0 (by omega), Int.toNat_of_nonneg h0]
    rfl
  rw [e9]
  exact (k H locs ls hP hS hl)
theorem r_aast {K : zK} {X : zX} {cc : ByteArray} {own : String} {ret : Option FieldType} {nL f pc : Nat} {lo : List (Nat × Value)} {st : List Value} {ct : zE} {a n v : Nat} {g : Int → Nat} {z : Int} {vs : List Value} (O : zO K X cc own ret nL f) (ha : a < kN K) (he : ct a = .inl (kS K, n, .inr (.inr (.inr (.inr (rI K g)))))) (hv : v < kN K) (hev : ct v = .inr (3, vs)) (h0 : 0 ≤ z) (h1 : z < n) (hn : n < 2147483648) (hd : decode cc pc = .ok (.aastore, 1)) (k : G K X nL (pc + 1) lo st (zup ct a (.inl (kS K, n, .inr (.inr (.inr (.inr (rI K (uN' g z v))))))))) : G K X nL pc lo (.ref (kad K v) :: .int (iI z) :: .ref (kad K a) :: st) ct := by
  obtain ⟨l, D, A, ad, N, cI, cC, cS⟩ := K
  obtain ⟨p, e, R, s, m, args, below, meth, c, Q, cells, slots⟩ := X
  obtain ⟨hx, hb, hr, hml, hown, hts, hlk, hK, hZ, hI, hf1, hf2, hc1, hc2⟩ := O
  intro H locs ls hP hS hl
  refine va_astq (tys := _) hx hb hK hP (zwl_D hI ct) hS a 2 v 3 (r := (RX3, TX3, 11)) ((zwl_at ha).trans (by rw [he])) rfl ((zwl_at hv).trans (by rw [hev])) rfl (iI_in h0 h1 hn) hd (fun H1 locs1 hP1 _ hS1 => ?_)
  refine k H1 locs1 ls ?_ hS1 hl
  have e8 := rI_up (l, D, A, ad, N, cI, cC, cS) g v h0 (by omega)
  have e7 : kad (l, D, A, ad, N, cI, cC, cS) v = ad v := rfl
  rw [e7] at e8
  have e9 := zwl_set (K := (l, D, A, ad, N, cI, cC, cS)) (ct := ct) (k := a) (.inl (cS, n, .inr (.inr (.inr (.inr (rI (l, D, A, ad, N, cI, cC, cS) (uN' g z v)))))))
  rw [← e8] at e9
  rw [← e8]
  exact e9 ▸ hP1
def zMath_min (own : String) (index : Nat) : Prop := Cond.methodLink own index Lib.Math.min.name ∈ zTB ∧ Cond.static Lib.Math.min.name ∈ zTB ∧ Cond.initialized "java/lang/Math" ∈ zTB ∧ Cond.code Lib.Math.min.name Lib.Math.min.code 2 (some .int) ∈ zTB
theorem r_min {K : zK} {X : zX} {cc : ByteArray} {own : String} {ret : Option FieldType} {nL f pc : Nat} {lo : List (Nat × Value)} {st : List Value} {ct : zE} {index : Nat} {x y : Int} (O : zO K X cc own ret nL f) (hw : zMath_min own index) (hf : 1 ≤ f) (hs : (st.map fun v => v.category).sum ≤ 8) (bx : zB x) (bz : zB y) (hd : decode cc pc = .ok (.invokestatic index, 3)) (k : G K X nL (pc + 3) lo (.int (iI (min x y)) :: st) ct) : G K X nL pc lo (.int (iI y) :: .int (iI x) :: st) ct := by
  obtain ⟨l, D, A, ad, N, cI, cC, cS⟩ := K
  obtain ⟨p, e, R, s, m, args, below, meth, c, Q, cells, slots⟩ := X
  obtain ⟨hx, hb, hr, hml, hown, hts, hlk, hK, hZ, hI, hf1, hf2, hc1, hc2⟩ := O
  intro H locs ls hP hS hl
  refine va_mmin hx hb (hml.trans hl.1.symm) hown (hts _ hw.1) (hts _ hw.2.1) (hts _ hw.2.2.1) (hts _ hw.2.2.2) (Nat.le_trans hf hf1) (by have : 32 * 1 ≤ 32 * f := Nat.mul_le_mul_left 32 hf; exact Nat.le_trans (by omega) (Nat.le_trans this hf2)) hc1 hc2 hd ?_
  have e9 : (if iI y < iI x then iI y else iI x) = iI (min x y) := by
    by_cases h : y < x
    · rw [if_pos ((iI_lt bz bx).mpr h), show min x y = y by omega]
    · rw [if_neg (fun q => h ((iI_lt bz bx).mp q)), show min x y = x by omega]
  rw [e9]
  exact (k H locs ls hP hS hl)
def zMath_max (own : String) (index : Nat) : Prop := Cond.methodLink own index Lib.Math.max.name ∈ zTB ∧ Cond.static Lib.Math.max.name ∈ zTB ∧ Cond.initialized "java/lang/Math" ∈ zTB ∧ Cond.code Lib.Math.max.name Lib.Math.max.code 2 (some .int) ∈ zTB
theorem r_max {K : zK} {X : zX} {cc : ByteArray} {own : String} {ret : Option FieldType} {nL f pc : Nat} {lo : List (Nat × Value)} {st : List Value} {ct : zE} {index : Nat} {x y : Int} (O : zO K X cc own ret nL f) (hw : zMath_max own index) (hf : 1 ≤ f) (hs : (st.map fun v => v.category).sum ≤ 8) (bx : zB x) (bz : zB y) (hd : decode cc pc = .ok (.invokestatic index, 3)) (k : G K X nL (pc + 3) lo (.int (iI (max x y)) :: st) ct) : G K X nL pc lo (.int (iI y) :: .int (iI x) :: st) ct := by
  obtain ⟨l, D, A, ad, N, cI, cC, cS⟩ := K
  obtain ⟨p, e, R, s, m, args, below, meth, c, Q, cells, slots⟩ := X
  obtain ⟨hx, hb, hr, hml, hown, hts, hlk, hK, hZ, hI, hf1, hf2, hc1, hc2⟩ := O
  intro H locs ls hP hS hl
  refine va_mmax hx hb (hml.trans hl.1.symm) hown (hts _ hw.1) (hts _ hw.2.1) (hts _ hw.2.2.1) (hts _ hw.2.2.2) (Nat.le_trans hf hf1) (by have : 32 * 1 ≤ 32 * f := Nat.mul_le_mul_left 32 hf; exact Nat.le_trans (by omega) (Nat.le_trans this hf2)) hc1 hc2 hd ?_
  have e9 : (if iI x < iI y then iI y else iI x) = iI (max x y) := by
    by_cases h : x < y
    · rw [if_pos ((iI_lt bx bz).mpr h), show max x y = y by omega]
    · rw [if_neg (fun q => h ((iI_lt bx bz).mp q)), show max x y = x by omega]
  rw [e9]
  exact (k H locs ls hP hS hl)
def zCopy (own : String) (index : Nat) : Prop := Cond.methodLink own index arraycopyName ∈ zTB ∧ Cond.native arraycopyName ∈ zTB ∧ Cond.static arraycopyName ∈ zTB ∧ Cond.initialized "java/lang/System" ∈ zTB
theorem r_copy {K : zK} {X : zX} {cc : ByteArray} {own : String} {ret : Option FieldType} {nL f pc : Nat} {lo : List (Nat × Value)} {st : List Value} {ct : zE} {index a0 a n0 n1 : Nat} {f0 g : Int → Int} {n : Int} (O : zO K X cc own ret nL f) (hw : zCopy own index) (hf : 1 ≤ f) (hs : (st.map fun v => v.category).sum ≤ 5) (ha0 : a0 < kN K) (ha : a < kN K) (he0 : ct a0 = .inl (kI K, n0, .inl (aI f0))) (he : ct a = .inl (kI K, n1, .inl (aI g))) (h0 : 0 ≤ n) (h1 : n ≤ n0) (h2 : n ≤ n1) (h3 : n < 2147483648) (hd : decode cc pc = .ok (.invokestatic index, 3)) (k : G K X nL (pc + 3) lo st (zup ct a (.inl (kI K, n1, .inl (aI (cpI f0 g n)))))) : G K X nL pc lo (.int (iI n) :: .int (iI 0) :: .ref (kad K a) :: .int (iI 0) :: .ref (kad K a0) :: st) ct := by
  obtain ⟨l, D, A, ad, N, cI, cC, cS⟩ := K
  obtain ⟨p, e, R, s, m, args, below, meth, c, Q, cells, slots⟩ := X
  obtain ⟨hx, hb, hr, hml, hown, hts, hlk, hK, hZ, hI, hf1, hf2, hc1, hc2⟩ := O
  intro H locs ls hP hS hl
  have b0 : zB 0 := ⟨by decide, by decide⟩
  have bn : zB n := ⟨by omega, by omega⟩
  have z0 : (iI 0).toNatClampNeg = 0 := iI_cl (by omega) (by omega)
  have zn : (iI n).toNatClampNeg = n.toNat := iI_cl h0 h3
  have n0' : ¬ iI 0 < 0 := by decide
  have nn : ¬ iI n < 0 := by
    intro q
    have q2 := (iI_lt bn b0).mp q
    omega
  refine va_copyi (tys := _) hx hb (hml.trans hl.1.symm) hown (hts _ hw.1) (hts _ hw.2.1) (hts _ hw.2.2.1) (hts _ hw.2.2.2) hK hP (zwl_D hI ct) hS a0 a 0 0 ((zwl_at ha0).trans (by rw [he0])) ((zwl_at ha).trans (by rw [he])) rfl rfl rfl n0' n0' nn (by rw [z0, zn]; omega) (by rw [z0, zn]; omega) (fun i _ => rfl) (Nat.le_trans hf hf1) (by have : 32 * 1 ≤ 32 * f := Nat.mul_le_mul_left 32 hf; have e4 : nativeFrameWords "java/lang/System" "arraycopy" 5 + 11 ≤ 27 := (by decide +kernel); exact Nat.le_trans (Nat.le_trans (Nat.add_le_add hs e4) (by omega)) (Nat.le_trans this hf2)) hd (fun H1 locs1 hP1 _ hS1 => ?_)
  refine k H1 locs1 ls ?_ hS1 hl
  rw [aI_cpy f0 g h0 h3] at hP1
  have e9 := zwl_set (K := (l, D, A, ad, N, cI, cC, cS)) (ct := ct) (k := a) (.inl (cI, n1, .inl (aI (cpI f0 g n))))
  exact e9 ▸ hP1
/-- a contract: from the world ct, with these arguments, the method ends and says post of its answer and its world -/
def zRoom (f : Nat) : Room := { frames := f, cells := 0, slots := 0, locals := 32 * f }
def zQi (K : zK) (post : Int → zE → Prop) : Array Value → State → Outcome → State → Prop := va_Qi (S := zE) (fun r u => ∃ z : Int, r = iI z ∧ post z u) (fun u t => va_P (kD K) vwCl (zwl K u) t.heap) (kA K)
def zQv (K : zK) (post : zE → Prop) : Array Value → State → Outcome → State → Prop := va_Qv (S := zE) (fun u => post u) (fun u t => va_P (kD K) vwCl (zwl K u) t.heap) (kA K)
def zM (K : zK) (y : MethodName) (b : ByteArray) (nL : Nat) (ret : Option FieldType) (f : Nat) (av : List Value) (ct : zE) (Qc : Array Value → State → Outcome → State → Prop) : Prop := Met (kl K) y (.code y b nL ret :: zTB) (zRoom f) (va_Pc av (zW K ct)) Qc 0 0 (kA K)
def zCi (K : zK) (y : MethodName) (b : ByteArray) (nL : Nat) (ret : Option FieldType) (f : Nat) (av : List Value) (ct : zE) (post : Int → zE → Prop) : Prop := zM K y b nL ret f av ct (zQi K post)
def zCv (K : zK) (y : MethodName) (b : ByteArray) (nL f : Nat) (av : List Value) (ct : zE) (post : zE → Prop) : Prop := zM K y b nL none f av ct (zQv K post)
def zEi (K : zK) (X : zX) (b : ByteArray) (nL : Nat) (rt : FieldType) (post : Int → zE → Prop) : Prop := ∀ (pc : Nat) (lo : List (Nat × Value)) (z : Int) (u : zE), decode b pc = .ok (.ireturn, 1) → narrow rt (.int (iI z)) = .int (iI z) → post z u → G K X nL pc lo [.int (iI z)] u
def zEv (K : zK) (X : zX) (b : ByteArray) (nL : Nat) (post : zE → Prop) : Prop := ∀ (pc : Nat) (lo : List (Nat × Value)) (u : zE), decode b pc = .ok (.return_, 1) → post u → G K X nL pc lo [] u
theorem zCi_in {K : zK} (hI : zInj K) {y : MethodName} {b : ByteArray} {nL : Nat} {rt : FieldType} {f : Nat} {av : List Value} {ct : zE} {post : Int → zE → Prop} (hy : plainName y.cls = true) (hn : (lg_sl av).length ≤ nL)
    (body : ∀ X : zX, zO K X b y.cls (some rt) nL f → zEi K X b nL rt post → G K X nL 0 (lv_args 0 av) [] ct) : zCi K y b nL (some rt) f av ct post := by
  obtain ⟨l, D, A, ad, N, cI, cC, cS⟩ := K
  refine Met.ofW (cc := b) (maxL := nL) (ret := some rt) hy rfl ?_
  intro p e s m args below meth c s₁ B hml hv
  obtain ⟨rfl, hP, hK, hZ⟩ := hv
  have hts := atoms_spec (ws := .code y b nL (some rt) :: zTB) B.pre
  rw [lg_entry_eq]
  refine body (p, e, zRoom f, s, m, av.toArray, below, meth, c, MQ below (zQi (l, D, A, ad, N, cI, cC, cS) post) av.toArray s 0 0 A, 0, 0) ⟨B.exec, B.bytes, B.returns, hml, findClass_of_methodNamed B.named, fun w hw => hts w (List.mem_cons_of_mem _ hw), B.notSynchronized, hK, hZ, hI, Nat.le_refl _, Nat.le_refl _, Nat.le_refl _, Nat.le_refl _⟩ ?_ s.heap [] _ hP va_S.rf (lv_entry av hn)
  intro pc lo z u hd hnr hpost H locs ls hP hS hl
  exact W.zret B.exec B.bytes B.returns hnr (fun t ht hW => ⟨⟨iI z, u, rfl, ⟨z, rfl, hpost⟩, by show va_P _ _ _ t.heap; rw [ht]; exact hP⟩, hS.F ht⟩) hS.2.2 hd B.notSynchronized
theorem zCv_in {K : zK} (hI : zInj K) {y : MethodName} {b : ByteArray} {nL : Nat} {f : Nat} {av : List Value} {ct : zE} {post : zE → Prop} (hy : plainName y.cls = true) (hn : (lg_sl av).length ≤ nL)
    (body : ∀ X : zX, zO K X b y.cls none nL f → zEv K X b nL post → G K X nL 0 (lv_args 0 av) [] ct) : zCv K y b nL f av ct post := by
  obtain ⟨l, D, A, ad, N, cI, cC, cS⟩ := K
  refine Met.ofW (cc := b) (maxL := nL) (ret := none) hy rfl ?_
  intro p e s m args below meth c s₁ B hml hv
  obtain ⟨rfl, hP, hK, hZ⟩ := hv
  have hts := atoms_spec (ws := .code y b nL none :: zTB) B.pre
  rw [lg_entry_eq]
  refine body (p, e, zRoom f, s, m, av.toArray, below, meth, c, MQ below (zQv (l, D, A, ad, N, cI, cC, cS) post) av.toArray s 0 0 A, 0, 0) ⟨B.exec, B.bytes, B.returns, hml, findClass_of_methodNamed B.named, fun w hw => hts w (List.mem_cons_of_mem _ hw), B.notSynchronized, hK, hZ, hI, Nat.le_refl _, Nat.le_refl _, Nat.le_refl _, Nat.le_refl _⟩ ?_ s.heap [] _ hP va_S.rf (lv_entry av hn)
  intro pc lo u hd hpost H locs ls hP hS hl
  exact W.vret B.exec B.bytes B.returns (fun t ht hW => ⟨⟨u, rfl, hpost, by show va_P _ _ _ t.heap; rw [ht]; exact hP⟩, hS.F ht⟩) hS.2.2 hd B.notSynchronized
theorem zblind {K : zK} {av : List Value} {ct : zE} : FrameBlind (va_Pc av (zW K ct)) := fun a U g mk q => by
  obtain ⟨q0, q1, q2, q3⟩ := q
  exact ⟨q0, q1, va_K.moved (u := U) (U := U.calling g mk a) (Vm.Alike.refl U.vm) q2, zNest_same rfl q3⟩
def zDs (y : MethodName) (n : Nat) : Prop := y.cls ≠ "java/lang/invoke/MethodHandle" ∧ y.cls ≠ "java/lang/invoke/VarHandle" ∧ (parseMethodDescriptor y.desc).map (fun d => d.parameters.length) = some n
/-- the words of a call: instance method; static; static of a nest mate -/
def zQV (own : String) (idx : Nat) (y : MethodName) (b : ByteArray) (nL : Nat) (ret : Option FieldType) (n : Nat) : Prop := Cond.methodLink own idx y ∈ zTB ∧ Cond.instanceMethod y ∈ zTB ∧ Cond.selects y.cls y y ∈ zTB ∧ Cond.initialized y.cls ∈ zTB ∧ Cond.code y b nL ret ∈ zTB ∧ zDs y n
def zQS (own : String) (idx : Nat) (y : MethodName) (b : ByteArray) (nL : Nat) (ret : Option FieldType) (n : Nat) : Prop := Cond.methodLink own idx y ∈ zTB ∧ Cond.static y ∈ zTB ∧ Cond.initialized y.cls ∈ zTB ∧ Cond.code y b nL ret ∈ zTB ∧ zDs y n
def zQN (own : String) (idx : Nat) (y : MethodName) (b : ByteArray) (nL : Nat) (ret : Option FieldType) (n : Nat) : Prop := (∀ U : State, zNest U → va_Nw (.methodLinkNest own idx y RX5) U) ∧ Cond.static y ∈ zTB ∧ Cond.initialized y.cls ∈ zTB ∧ Cond.code y b nL ret ∈ zTB ∧ zDs y n
theorem zgoodC {y : MethodName} {b : ByteArray} {nL : Nat} {ret : Option FieldType} (h : Cond.code y b nL ret ∈ zTB) : GoodIn zTB (.code y b nL ret :: zTB) := zgood (fun w hw => (List.mem_cons.mp hw).elim (fun e => e ▸ h) (fun h => h))
theorem zroom {f f' nL' : Nat} {R : Room} (h : f' + 1 ≤ f) (hn : nL' ≤ 13) (h1 : f ≤ R.frames) (h2 : 32 * f ≤ R.locals) : (zRoom f').frames + 1 ≤ R.frames ∧ 8 + (nL' + 11) + (zRoom f').locals ≤ R.locals := by
  refine ⟨Nat.le_trans h h1, Nat.le_trans ?_ h2⟩
  show 8 + (nL' + 11) + 32 * f' ≤ 32 * f
  omega
theorem zcat {st : List Value} (h : (st.map fun v => v.category).sum ≤ 8) {m : MethodId} {pc : Nat} {ls : Array Slot} {x : List Value} : 2 * (F0 m pc ls x).monitorRoom + (st.map fun v => v.category).sum ≤ 8 := lv_room h
theorem r_callV0i {K : zK} {X : zX} {cc : ByteArray} {own : String} {ret : Option FieldType} {nL f pc : Nat} {lo : List (Nat × Value)} {st : List Value} {ct : zE} {y : MethodName} {b : ByteArray} {nL2 f2 idx : Nat} {rt : Option FieldType} {o co : Nat} {q : String × u_T × Nat} {fs : List Value} {post : Int → zE → Prop} (O : zO K X cc own ret nL f) (hC : zCi K y b nL2 rt f2 (.ref (kad K o) :: []) ct post) (hq : zQV own idx y b nL2 rt 0) (ho : o < kN K) (he : ct o = .inr (co, fs)) (hcl : vwCl[co]? = some q) (hqc : q.1 = y.cls) (hf : f2 + 1 ≤ f) (hn : nL2 ≤ 13) (hs : (st.map fun v => v.category).sum ≤ 8) (hd : decode cc pc = .ok (.invokevirtual idx, 3)) (k : ∀ (z : Int) (u : zE), post z u → G K X nL (pc + 3) lo (.int (iI z) :: st) u) : G K X nL pc lo ( .ref (kad K o) :: st) ct := by
  obtain ⟨l, D, A, ad, N, cI, cC, cS⟩ := K
  obtain ⟨p, e, R, s, m, args, below, meth, c, Q, cells, slots⟩ := X
  obtain ⟨hx, hb, hr, hml, hown, hts, hlk, hK, hZ, hI, hf1, hf2, hc1, hc2⟩ := O
  intro H locs ls hP hS hl
  exact va_calli (va_runV (As := []) (rest := st) ⟨hx, hb, hml, hown, hts⟩ hC ⟨callB_of 0 hts (zgoodC hq.2.2.2.2.1) rfl rfl rfl (hts _ hq.2.2.2.1) (hts _ hq.1) hq.2.2.2.2.2 (zroom hf hn hf1 hf2), hts _ hq.2.1, hts _ hq.2.2.1⟩ ⟨zblind, hqc ▸ va_recv hK hP (ci := co) (q0 := o) hcl ((zwl_at ho).trans (by rw [he])), fun U hU hW => ⟨rfl, by rw [hU]; exact hP, va_K.moved hW.alike hK, zNest_warm hW hZ⟩⟩ rfl rfl hl.1 rfl (zcat hs) hd ⟨hc1, hc2⟩) hS (fun q _ h => h) (fun q h => h) (fun r u t H1 locs1 ht _ hw hB _ _ hS1 => by
    obtain ⟨z, rfl, hp⟩ := hw
    exact k z u hp H1 locs1 ls (by rw [← ht]; exact hB) hS1 hl)
theorem r_callV0v {K : zK} {X : zX} {cc : ByteArray} {own : String} {ret : Option FieldType} {nL f pc : Nat} {lo : List (Nat × Value)} {st : List Value} {ct : zE} {y : MethodName} {b : ByteArray} {nL2 f2 idx : Nat} {o co : Nat} {q : String × u_T × Nat} {fs : List Value} {post : zE → Prop} (O : zO K X cc own ret nL f) (hC : zCv K y b nL2 f2 (.ref (kad K o) :: []) ct post) (hq : zQV own idx y b nL2 none 0) (ho : o < kN K) (he : ct o = .inr (co, fs)) (hcl : vwCl[co]? = some q) (hqc : q.1 = y.cls) (hf : f2 + 1 ≤ f) (hn : nL2 ≤ 13) (hs : (st.map fun v => v.category).sum ≤ 8) (hd : decode cc pc = .ok (.invokevirtual idx, 3)) (k : ∀ u : zE, post u → G K X nL (pc + 3) lo st u) : G K X nL pc lo ( .ref (kad K o) :: st) ct := by
  obtain ⟨l, D, A, ad, N, cI, cC, cS⟩ := K
  obtain ⟨p, e, R, s, m, args, below, meth, c, Q, cells, slots⟩ := X
  obtain ⟨hx, hb, hr, hml, hown, hts, hlk, hK, hZ, hI, hf1, hf2, hc1, hc2⟩ := O
  intro H locs ls hP hS hl
  exact va_callv (va_runV (As := []) (rest := st) ⟨hx, hb, hml, hown, hts⟩ hC ⟨callB_of 0 hts (zgoodC hq.2.2.2.2.1) rfl rfl rfl (hts _ hq.2.2.2.1) (hts _ hq.1) hq.2.2.2.2.2 (zroom hf hn hf1 hf2), hts _ hq.2.1, hts _ hq.2.2.1⟩ ⟨zblind, hqc ▸ va_recv hK hP (ci := co) (q0 := o) hcl ((zwl_at ho).trans (by rw [he])), fun U hU hW => ⟨rfl, by rw [hU]; exact hP, va_K.moved hW.alike hK, zNest_warm hW hZ⟩⟩ rfl rfl hl.1 rfl (zcat hs) hd ⟨hc1, hc2⟩) hS (fun q _ h => h) (fun q h => h) (fun u t H1 locs1 ht _ hw hB _ _ hS1 => k u hw H1 locs1 ls (by rw [← ht]; exact hB) hS1 hl)
theorem r_callV1i {K : zK} {X : zX} {cc : ByteArray} {own : String} {ret : Option FieldType} {nL f pc : Nat} {lo : List (Nat × Value)} {st : List Value} {ct : zE} {y : MethodName} {b : ByteArray} {nL2 f2 idx : Nat} {rt : Option FieldType} {a1 : Value} {o co : Nat} {q : String × u_T × Nat} {fs : List Value} {post : Int → zE → Prop} (O : zO K X cc own ret nL f) (hC : zCi K y b nL2 rt f2 (.ref (kad K o) :: [a1]) ct post) (hq : zQV own idx y b nL2 rt 1) (ho : o < kN K) (he : ct o = .inr (co, fs)) (hcl : vwCl[co]? = some q) (hqc : q.1 = y.cls) (hf : f2 + 1 ≤ f) (hn : nL2 ≤ 13) (hs : (st.map fun v => v.category).sum ≤ 8) (hd : decode cc pc = .ok (.invokevirtual idx, 3)) (k : ∀ (z : Int) (u : zE), post z u → G K X nL (pc + 3) lo (.int (iI z) :: st) u) : G K X nL pc lo (a1 ::  .ref (kad K o) :: st) ct := by
  obtain ⟨l, D, A, ad, N, cI, cC, cS⟩ := K
  obtain ⟨p, e, R, s, m, args, below, meth, c, Q, cells, slots⟩ := X
  obtain ⟨hx, hb, hr, hml, hown, hts, hlk, hK, hZ, hI, hf1, hf2, hc1, hc2⟩ := O
  intro H locs ls hP hS hl
  exact va_calli (va_runV (As := [a1]) (rest := st) ⟨hx, hb, hml, hown, hts⟩ hC ⟨callB_of 1 hts (zgoodC hq.2.2.2.2.1) rfl rfl rfl (hts _ hq.2.2.2.1) (hts _ hq.1) hq.2.2.2.2.2 (zroom hf hn hf1 hf2), hts _ hq.2.1, hts _ hq.2.2.1⟩ ⟨zblind, hqc ▸ va_recv hK hP (ci := co) (q0 := o) hcl ((zwl_at ho).trans (by rw [he])), fun U hU hW => ⟨rfl, by rw [hU]; exact hP, va_K.moved hW.alike hK, zNest_warm hW hZ⟩⟩ rfl rfl hl.1 rfl (zcat hs) hd ⟨hc1, hc2⟩) hS (fun q _ h => h) (fun q h => h) (fun r u t H1 locs1 ht _ hw hB _ _ hS1 => by
    obtain ⟨z, rfl, hp⟩ := hw
    exact k z u hp H1 locs1 ls (by rw [← ht]; exact hB) hS1 hl)
theorem r_callV1v {K : zK} {X : zX} {cc : ByteArray} {own : String} {ret : Option FieldType} {nL f pc : Nat} {lo : List (Nat × Value)} {st : List Value} {ct : zE} {y : MethodName} {b : ByteArray} {nL2 f2 idx : Nat} {a1 : Value} {o co : Nat} {q : String × u_T × Nat} {fs : List Value} {post : zE → Prop} (O : zO K X cc own ret nL f) (hC : zCv K y b nL2 f2 (.ref (kad K o) :: [a1]) ct post) (hq : zQV own idx y b nL2 none 1) (ho : o < kN K) (he : ct o = .inr (co, fs)) (hcl : vwCl[co]? = some q) (hqc : q.1 = y.cls) (hf : f2 + 1 ≤ f) (hn : nL2 ≤ 13) (hs : (st.map fun v => v.category).sum ≤ 8) (hd : decode cc pc = .ok (.invokevirtual idx, 3)) (k : ∀ u : zE, post u → G K X nL (pc + 3) lo st u) : G K X nL pc lo (a1 ::  .ref (kad K o) :: st) ct := by
  obtain ⟨l, D, A, ad, N, cI, cC, cS⟩ := K
  obtain ⟨p, e, R, s, m, args, below, meth, c, Q, cells, slots⟩ := X
  obtain ⟨hx, hb, hr, hml, hown, hts, hlk, hK, hZ, hI, hf1, hf2, hc1, hc2⟩ := O
  intro H locs ls hP hS hl
  exact va_callv (va_runV (As := [a1]) (rest := st) ⟨hx, hb, hml, hown, hts⟩ hC ⟨callB_of 1 hts (zgoodC hq.2.2.2.2.1) rfl rfl rfl (hts _ hq.2.2.2.1) (hts _ hq.1) hq.2.2.2.2.2 (zroom hf hn hf1 hf2), hts _ hq.2.1, hts _ hq.2.2.1⟩ ⟨zblind, hqc ▸ va_recv hK hP (ci := co) (q0 := o) hcl ((zwl_at ho).trans (by rw [he])), fun U hU hW => ⟨rfl, by rw [hU]; exact hP, va_K.moved hW.alike hK, zNest_warm hW hZ⟩⟩ rfl rfl hl.1 rfl (zcat hs) hd ⟨hc1, hc2⟩) hS (fun q _ h => h) (fun q h => h) (fun u t H1 locs1 ht _ hw hB _ _ hS1 => k u hw H1 locs1 ls (by rw [← ht]; exact hB) hS1 hl)
theorem r_callV2i {K : zK} {X : zX} {cc : ByteArray} {own : String} {ret : Option FieldType} {nL f pc : Nat} {lo : List (Nat × Value)} {st : List Value} {ct : zE} {y : MethodName} {b : ByteArray} {nL2 f2 idx : Nat} {rt : Option FieldType} {a1 a2 : Value} {o co : Nat} {q : String × u_T × Nat} {fs : List Value} {post : Int → zE → Prop} (O : zO K X cc own ret nL f) (hC : zCi K y b nL2 rt f2 (.ref (kad K o) :: [a1, a2]) ct post) (hq : zQV own idx y b nL2 rt 2) (ho : o < kN K) (he : ct o = .inr (co, fs)) (hcl : vwCl[co]? = some q) (hqc : q.1 = y.cls) (hf : f2 + 1 ≤ f) (hn : nL2 ≤ 13) (hs : (st.map fun v => v.category).sum ≤ 8) (hd : decode cc pc = .ok (.invokevirtual idx, 3)) (k : ∀ (z : Int) (u : zE), post z u → G K X nL (pc + 3) lo (.int (iI z) :: st) u) : G K X nL pc lo (a2 :: a1 ::  .ref (kad K o) :: st) ct := by
  obtain ⟨l, D, A, ad, N, cI, cC, cS⟩ := K
  obtain ⟨p, e, R, s, m, args, below, meth, c, Q, cells, slots⟩ := X
  obtain ⟨hx, hb, hr, hml, hown, hts, hlk, hK, hZ, hI, hf1, hf2, hc1, hc2⟩ := O
  intro H locs ls hP hS hl
  exact va_calli (va_runV (As := [a1, a2]) (rest := st) ⟨hx, hb, hml, hown, hts⟩ hC ⟨callB_of 2 hts (zgoodC hq.2.2.2.2.1) rfl rfl rfl (hts _ hq.2.2.2.1) (hts _ hq.1) hq.2.2.2.2.2 (zroom hf hn hf1 hf2), hts _ hq.2.1, hts _ hq.2.2.1⟩ ⟨zblind, hqc ▸ va_recv hK hP (ci := co) (q0 := o) hcl ((zwl_at ho).trans (by rw [he])), fun U hU hW => ⟨rfl, by rw [hU]; exact hP, va_K.moved hW.alike hK, zNest_warm hW hZ⟩⟩ rfl rfl hl.1 rfl (zcat hs) hd ⟨hc1, hc2⟩) hS (fun q _ h => h) (fun q h => h) (fun r u t H1 locs1 ht _ hw hB _ _ hS1 => by
    obtain ⟨z, rfl, hp⟩ := hw
    exact k z u hp H1 locs1 ls (by rw [← ht]; exact hB) hS1 hl)
theorem r_callV2v {K : zK} {X : zX} {cc : ByteArray} {own : String} {ret : Option FieldType} {nL f pc : Nat} {lo : List (Nat × Value)} {st : List Value} {ct : zE} {y : MethodName} {b : ByteArray} {nL2 f2 idx : Nat} {a1 a2 : Value} {o co : Nat} {q : String × u_T × Nat} {fs : List Value} {post : zE → Prop} (O : zO K X cc own ret nL f) (hC : zCv K y b nL2 f2 (.ref (kad K o) :: [a1, a2]) ct post) (hq : zQV own idx y b nL2 none 2) (ho : o < kN K) (he : ct o = .inr (co, fs)) (hcl : vwCl[co]? = some q) (hqc : q.1 = y.cls) (hf : f2 + 1 ≤ f) (hn : nL2 ≤ 13) (hs : (st.map fun v => v.category).sum ≤ 8) (hd : decode cc pc = .ok (.invokevirtual idx, 3)) (k : ∀ u : zE, post u → G K X nL (pc + 3) lo st u) : G K X nL pc lo (a2 :: a1 ::  .ref (kad K o) :: st) ct := by
  obtain ⟨l, D, A, ad, N, cI, cC, cS⟩ := K
  obtain ⟨p, e, R, s, m, args, below, meth, c, Q, cells, slots⟩ := X
  obtain ⟨hx, hb, hr, hml, hown, hts, hlk, hK, hZ, hI, hf1, hf2, hc1, hc2⟩ := O
  intro H locs ls hP hS hl
  exact va_callv (va_runV (As := [a1, a2]) (rest := st) ⟨hx, hb, hml, hown, hts⟩ hC ⟨callB_of 2 hts (zgoodC hq.2.2.2.2.1) rfl rfl rfl (hts _ hq.2.2.2.1) (hts _ hq.1) hq.2.2.2.2.2 (zroom hf hn hf1 hf2), hts _ hq.2.1, hts _ hq.2.2.1⟩ ⟨zblind, hqc ▸ va_recv hK hP (ci := co) (q0 := o) hcl ((zwl_at ho).trans (by rw [he])), fun U hU hW => ⟨rfl, by rw [hU]; exact hP, va_K.moved hW.alike hK, zNest_warm hW hZ⟩⟩ rfl rfl hl.1 rfl (zcat hs) hd ⟨hc1, hc2⟩) hS (fun q _ h => h) (fun q h => h) (fun u t H1 locs1 ht _ hw hB _ _ hS1 => k u hw H1 locs1 ls (by rw [← ht]; exact hB) hS1 hl)
theorem r_callV3i {K : zK} {X : zX} {cc : ByteArray} {own : String} {ret : Option FieldType} {nL f pc : Nat} {lo : List (Nat × Value)} {st : List Value} {ct : zE} {y : MethodName} {b : ByteArray} {nL2 f2 idx : Nat} {rt : Option FieldType} {a1 a2 a3 : Value} {o co : Nat} {q : String × u_T × Nat} {fs : List Value} {post : Int → zE → Prop} (O : zO K X cc own ret nL f) (hC : zCi K y b nL2 rt f2 (.ref (kad K o) :: [a1, a2, a3]) ct post) (hq : zQV own idx y b nL2 rt 3) (ho : o < kN K) (he : ct o = .inr (co, fs)) (hcl : vwCl[co]? = some q) (hqc : q.1 = y.cls) (hf : f2 + 1 ≤ f) (hn : nL2 ≤ 13) (hs : (st.map fun v => v.category).sum ≤ 8) (hd : decode cc pc = .ok (.invokevirtual idx, 3)) (k : ∀ (z : Int) (u : zE), post z u → G K X nL (pc + 3) lo (.int (iI z) :: st) u) : G K X nL pc lo (a3 :: a2 :: a1 ::  .ref (kad K o) :: st) ct := by
  obtain ⟨l, D, A, ad, N, cI, cC, cS⟩ := K
  obtain ⟨p, e, R, s, m, args, below, meth, c, Q, cells, slots⟩ := X
  obtain ⟨hx, hb, hr, hml, hown, hts, hlk, hK, hZ, hI, hf1, hf2, hc1, hc2⟩ := O
  intro H locs ls hP hS hl
  exact va_calli (va_runV (As := [a1, a2, a3]) (rest := st) ⟨hx, hb, hml, hown, hts⟩ hC ⟨callB_of 3 hts (zgoodC hq.2.2.2.2.1) rfl rfl rfl (hts _ hq.2.2.2.1) (hts _ hq.1) hq.2.2.2.2.2 (zroom hf hn hf1 hf2), hts _ hq.2.1, hts _ hq.2.2.1⟩ ⟨zblind, hqc ▸ va_recv hK hP (ci := co) (q0 := o) hcl ((zwl_at ho).trans (by rw [he])), fun U hU hW => ⟨rfl, by rw [hU]; exact hP, va_K.moved hW.alike hK, zNest_warm hW hZ⟩⟩ rfl rfl hl.1 rfl (zcat hs) hd ⟨hc1, hc2⟩) hS (fun q _ h => h) (fun q h => h) (fun r u t H1 locs1 ht _ hw hB _ _ hS1 => by
    obtain ⟨z, rfl, hp⟩ := hw
    exact k z u hp H1 locs1 ls (by rw [← ht]; exact hB) hS1 hl)
theorem r_callV3v {K : zK} {X : zX} {cc : ByteArray} {own : String} {ret : Option FieldType} {nL f pc : Nat} {lo : List (Nat × Value)} {st : List Value} {ct : zE} {y : MethodName} {b : ByteArray} {nL2 f2 idx : Nat} {a1 a2 a3 : Value} {o co : Nat} {q : String × u_T × Nat} {fs : List Value} {post : zE → Prop} (O : zO K X cc own ret nL f) (hC : zCv K y b nL2 f2 (.ref (kad K o) :: [a1, a2, a3]) ct post) (hq : zQV own idx y b nL2 none 3) (ho : o < kN K) (he : ct o = .inr (co, fs)) (hcl : vwCl[co]? = some q) (hqc : q.1 = y.cls) (hf : f2 + 1 ≤ f) (hn : nL2 ≤ 13) (hs : (st.map fun v => v.category).sum ≤ 8) (hd : decode cc pc = .ok (.invokevirtual idx, 3)) (k : ∀ u : zE, post u → G K X nL (pc + 3) lo st u) : G K X nL pc lo (a3 :: a2 :: a1 ::  .ref (kad K o) :: st) ct := by
  obtain ⟨l, D, A, ad, N, cI, cC, cS⟩ := K
  obtain ⟨p, e, R, s, m, args, below, meth, c, Q, cells, slots⟩ := X
  obtain ⟨hx, hb, hr, hml, hown, hts, hlk, hK, hZ, hI, hf1, hf2, hc1, hc2⟩ := O
  intro H locs ls hP hS hl
  exact va_callv (va_runV (As := [a1, a2, a3]) (rest := st) ⟨hx, hb, hml, hown, hts⟩ hC ⟨callB_of 3 hts (zgoodC hq.2.2.2.2.1) rfl rfl rfl (hts _ hq.2.2.2.1) (hts _ hq.1) hq.2.2.2.2.2 (zroom hf hn hf1 hf2), hts _ hq.2.1, hts _ hq.2.2.1⟩ ⟨zblind, hqc ▸ va_recv hK hP (ci := co) (q0 := o) hcl ((zwl_at ho).trans (by rw [he])), fun U hU hW => ⟨rfl, by rw [hU]; exact hP, va_K.moved hW.alike hK, zNest_warm hW hZ⟩⟩ rfl rfl hl.1 rfl (zcat hs) hd ⟨hc1, hc2⟩) hS (fun q _ h => h) (fun q h => h) (fun u t H1 locs1 ht _ hw hB _ _ hS1 => k u hw H1 locs1 ls (by rw [← ht]; exact hB) hS1 hl)
theorem r_callV4i {K : zK} {X : zX} {cc : ByteArray} {own : String} {ret : Option FieldType} {nL f pc : Nat} {lo : List (Nat × Value)} {st : List Value} {ct : zE} {y : MethodName} {b : ByteArray} {nL2 f2 idx : Nat} {rt : Option FieldType} {a1 a2 a3 a4 : Value} {o co : Nat} {q : String × u_T × Nat} {fs : List Value} {post : Int → zE → Prop} (O : zO K X cc own ret nL f) (hC : zCi K y b nL2 rt f2 (.ref (kad K o) :: [a1, a2, a3, a4]) ct post) (hq : zQV own idx y b nL2 rt 4) (ho : o < kN K) (he : ct o = .inr (co, fs)) (hcl : vwCl[co]? = some q) (hqc : q.1 = y.cls) (hf : f2 + 1 ≤ f) (hn : nL2 ≤ 13) (hs : (st.map fun v => v.category).sum ≤ 8) (hd : decode cc pc = .ok (.invokevirtual idx, 3)) (k : ∀ (z : Int) (u : zE), post z u → G K X nL (pc + 3) lo (.int (iI z) :: st) u) : G K X nL pc lo (a4 :: a3 :: a2 :: a1 ::  .ref (kad K o) :: st) ct := by
  obtain ⟨l, D, A, ad, N, cI, cC, cS⟩ := K
  obtain ⟨p, e, R, s, m, args, below, meth, c, Q, cells, slots⟩ := X
  obtain ⟨hx, hb, hr, hml, hown, hts, hlk, hK, hZ, hI, hf1, hf2, hc1, hc2⟩ := O
  intro H locs ls hP hS hl
  exact va_calli (va_runV (As := [a1, a2, a3, a4]) (rest := st) ⟨hx, hb, hml, hown, hts⟩ hC ⟨callB_of 4 hts (zgoodC hq.2.2.2.2.1) rfl rfl rfl (hts _ hq.2.2.2.1) (hts _ hq.1) hq.2.2.2.2.2 (zroom hf hn hf1 hf2), hts _ hq.2.1, hts _ hq.2.2.1⟩ ⟨zblind, hqc ▸ va_recv hK hP (ci := co) (q0 := o) hcl ((zwl_at ho).trans (by rw [he])), fun U hU hW => ⟨rfl, by rw [hU]; exact hP, va_K.moved hW.alike hK, zNest_warm hW hZ⟩⟩ rfl rfl hl.1 rfl (zcat hs) hd ⟨hc1, hc2⟩) hS (fun q _ h => h) (fun q h => h) (fun r u t H1 locs1 ht _ hw hB _ _ hS1 => by
    obtain ⟨z, rfl, hp⟩ := hw
    exact k z u hp H1 locs1 ls (by rw [← ht]; exact hB) hS1 hl)
theorem r_callV4v {K : zK} {X : zX} {cc : ByteArray} {own : String} {ret : Option FieldType} {nL f pc : Nat} {lo : List (Nat × Value)} {st : List Value} {ct : zE} {y : MethodName} {b : ByteArray} {nL2 f2 idx : Nat} {a1 a2 a3 a4 : Value} {o co : Nat} {q : String × u_T × Nat} {fs : List Value} {post : zE → Prop} (O : zO K X cc own ret nL f) (hC : zCv K y b nL2 f2 (.ref (kad K o) :: [a1, a2, a3, a4]) ct post) (hq : zQV own idx y b nL2 none 4) (ho : o < kN K) (he : ct o = .inr (co, fs)) (hcl : vwCl[co]? = some q) (hqc : q.1 = y.cls) (hf : f2 + 1 ≤ f) (hn : nL2 ≤ 13) (hs : (st.map fun v => v.category).sum ≤ 8) (hd : decode cc pc = .ok (.invokevirtual idx, 3)) (k : ∀ u : zE, post u → G K X nL (pc + 3) lo st u) : G K X nL pc lo (a4 :: a3 :: a2 :: a1 ::  .ref (kad K o) :: st) ct := by
  obtain ⟨l, D, A, ad, N, cI, cC, cS⟩ := K
  obtain ⟨p, e, R, s, m, args, below, meth, c, Q, cells, slots⟩ := X
  obtain ⟨hx, hb, hr, hml, hown, hts, hlk, hK, hZ, hI, hf1, hf2, hc1, hc2⟩ := O
  intro H locs ls hP hS hl
  exact va_callv (va_runV (As := [a1, a2, a3, a4]) (rest := st) ⟨hx, hb, hml, hown, hts⟩ hC ⟨callB_of 4 hts (zgoodC hq.2.2.2.2.1) rfl rfl rfl (hts _ hq.2.2.2.1) (hts _ hq.1) hq.2.2.2.2.2 (zroom hf hn hf1 hf2), hts _ hq.2.1, hts _ hq.2.2.1⟩ ⟨zblind, hqc ▸ va_recv hK hP (ci := co) (q0 := o) hcl ((zwl_at ho).trans (by rw [he])), fun U hU hW => ⟨rfl, by rw [hU]; exact hP, va_K.moved hW.alike hK, zNest_warm hW hZ⟩⟩ rfl rfl hl.1 rfl (zcat hs) hd ⟨hc1, hc2⟩) hS (fun q _ h => h) (fun q h => h) (fun u t H1 locs1 ht _ hw hB _ _ hS1 => k u hw H1 locs1 ls (by rw [← ht]; exact hB) hS1 hl)
theorem r_callS0i {K : zK} {X : zX} {cc : ByteArray} {own : String} {ret : Option FieldType} {nL f pc : Nat} {lo : List (Nat × Value)} {st : List Value} {ct : zE} {y : MethodName} {b : ByteArray} {nL2 f2 idx : Nat} {rt : Option FieldType} {post : Int → zE → Prop} (O : zO K X cc own ret nL f) (hC : zCi K y b nL2 rt f2 [] ct post) (hq : zQS own idx y b nL2 rt 0) (hf : f2 + 1 ≤ f) (hn : nL2 ≤ 13) (hs : (st.map fun v => v.category).sum ≤ 8) (hd : decode cc pc = .ok (.invokestatic idx, 3)) (k : ∀ (z : Int) (u : zE), post z u → G K X nL (pc + 3) lo (.int (iI z) :: st) u) : G K X nL pc lo ( st) ct := by
  obtain ⟨l, D, A, ad, N, cI, cC, cS⟩ := K
  obtain ⟨p, e, R, s, m, args, below, meth, c, Q, cells, slots⟩ := X
  obtain ⟨hx, hb, hr, hml, hown, hts, hlk, hK, hZ, hI, hf1, hf2, hc1, hc2⟩ := O
  intro H locs ls hP hS hl
  exact va_calli (va_runS (As := []) (rest := st) ⟨hx, hb, hml, hown, hts⟩ hC ⟨callB_of 0 hts (zgoodC hq.2.2.2.1) rfl rfl rfl (hts _ hq.2.2.1) (hts _ hq.1) hq.2.2.2.2 (zroom hf hn hf1 hf2), hts _ hq.2.1⟩ ⟨zblind, fun U hU hW => ⟨rfl, by rw [hU]; exact hP, va_K.moved hW.alike hK, zNest_warm hW hZ⟩⟩ rfl rfl hl.1 rfl (zcat hs) hd ⟨hc1, hc2⟩) hS (fun q _ h => h) (fun q h => h) (fun r u t H1 locs1 ht _ hw hB _ _ hS1 => by
    obtain ⟨z, rfl, hp⟩ := hw
    exact k z u hp H1 locs1 ls (by rw [← ht]; exact hB) hS1 hl)
theorem r_callS0v {K : zK} {X : zX} {cc : ByteArray} {own : String} {ret : Option FieldType} {nL f pc : Nat} {lo : List (Nat × Value)} {st : List Value} {ct : zE} {y : MethodName} {b : ByteArray} {nL2 f2 idx : Nat} {post : zE → Prop} (O : zO K X cc own ret nL f) (hC : zCv K y b nL2 f2 [] ct post) (hq : zQS own idx y b nL2 none 0) (hf : f2 + 1 ≤ f) (hn : nL2 ≤ 13) (hs : (st.map fun v => v.category).sum ≤ 8) (hd : decode cc pc = .ok (.invokestatic idx, 3)) (k : ∀ u : zE, post u → G K X nL (pc + 3) lo st u) : G K X nL pc lo ( st) ct := by
  obtain ⟨l, D, A, ad, N, cI, cC, cS⟩ := K
  obtain ⟨p, e, R, s, m, args, below, meth, c, Q, cells, slots⟩ := X
  obtain ⟨hx, hb, hr, hml, hown, hts, hlk, hK, hZ, hI, hf1, hf2, hc1, hc2⟩ := O
  intro H locs ls hP hS hl
  exact va_callv (va_runS (As := []) (rest := st) ⟨hx, hb, hml, hown, hts⟩ hC ⟨callB_of 0 hts (zgoodC hq.2.2.2.1) rfl rfl rfl (hts _ hq.2.2.1) (hts _ hq.1) hq.2.2.2.2 (zroom hf hn hf1 hf2), hts _ hq.2.1⟩ ⟨zblind, fun U hU hW => ⟨rfl, by rw [hU]; exact hP, va_K.moved hW.alike hK, zNest_warm hW hZ⟩⟩ rfl rfl hl.1 rfl (zcat hs) hd ⟨hc1, hc2⟩) hS (fun q _ h => h) (fun q h => h) (fun u t H1 locs1 ht _ hw hB _ _ hS1 => k u hw H1 locs1 ls (by rw [← ht]; exact hB) hS1 hl)
theorem r_callS1i {K : zK} {X : zX} {cc : ByteArray} {own : String} {ret : Option FieldType} {nL f pc : Nat} {lo : List (Nat × Value)} {st : List Value} {ct : zE} {y : MethodName} {b : ByteArray} {nL2 f2 idx : Nat} {rt : Option FieldType} {a1 : Value} {post : Int → zE → Prop} (O : zO K X cc own ret nL f) (hC : zCi K y b nL2 rt f2 [a1] ct post) (hq : zQS own idx y b nL2 rt 1) (hf : f2 + 1 ≤ f) (hn : nL2 ≤ 13) (hs : (st.map fun v => v.category).sum ≤ 8) (hd : decode cc pc = .ok (.invokestatic idx, 3)) (k : ∀ (z : Int) (u : zE), post z u → G K X nL (pc + 3) lo (.int (iI z) :: st) u) : G K X nL pc lo (a1 ::  st) ct := by
  obtain ⟨l, D, A, ad, N, cI, cC, cS⟩ := K
  obtain ⟨p, e, R, s, m, args, below, meth, c, Q, cells, slots⟩ := X
  obtain ⟨hx, hb, hr, hml, hown, hts, hlk, hK, hZ, hI, hf1, hf2, hc1, hc2⟩ := O
  intro H locs ls hP hS hl
  exact va_calli (va_runS (As := [a1]) (rest := st) ⟨hx, hb, hml, hown, hts⟩ hC ⟨callB_of 1 hts (zgoodC hq.2.2.2.1) rfl rfl rfl (hts _ hq.2.2.1) (hts _ hq.1) hq.2.2.2.2 (zroom hf hn hf1 hf2), hts _ hq.2.1⟩ ⟨zblind, fun U hU hW => ⟨rfl, by rw [hU]; exact hP, va_K.moved hW.alike hK, zNest_warm hW hZ⟩⟩ rfl rfl hl.1 rfl (zcat hs) hd ⟨hc1, hc2⟩) hS (fun q _ h => h) (fun q h => h) (fun r u t H1 locs1 ht _ hw hB _ _ hS1 => by
    obtain ⟨z, rfl, hp⟩ := hw
    exact k z u hp H1 locs1 ls (by rw [← ht]; exact hB) hS1 hl)
theorem r_callS1v {K : zK} {X : zX} {cc : ByteArray} {own : String} {ret : Option FieldType} {nL f pc : Nat} {lo : List (Nat × Value)} {st : List Value} {ct : zE} {y : MethodName} {b : ByteArray} {nL2 f2 idx : Nat} {a1 : Value} {post : zE → Prop} (O : zO K X cc own ret nL f) (hC : zCv K y b nL2 f2 [a1] ct post) (hq : zQS own idx y b nL2 none 1) (hf : f2 + 1 ≤ f) (hn : nL2 ≤ 13) (hs : (st.map fun v => v.category).sum ≤ 8) (hd : decode cc pc = .ok (.invokestatic idx, 3)) (k : ∀ u : zE, post u → G K X nL (pc + 3) lo st u) : G K X nL pc lo (a1 ::  st) ct := by
  obtain ⟨l, D, A, ad, N, cI, cC, cS⟩ := K
  obtain ⟨p, e, R, s, m, args, below, meth, c, Q, cells, slots⟩ := X
  obtain ⟨hx, hb, hr, hml, hown, hts, hlk, hK, hZ, hI, hf1, hf2, hc1, hc2⟩ := O
  intro H locs ls hP hS hl
  exact va_callv (va_runS (As := [a1]) (rest := st) ⟨hx, hb, hml, hown, hts⟩ hC ⟨callB_of 1 hts (zgoodC hq.2.2.2.1) rfl rfl rfl (hts _ hq.2.2.1) (hts _ hq.1) hq.2.2.2.2 (zroom hf hn hf1 hf2), hts _ hq.2.1⟩ ⟨zblind, fun U hU hW => ⟨rfl, by rw [hU]; exact hP, va_K.moved hW.alike hK, zNest_warm hW hZ⟩⟩ rfl rfl hl.1 rfl (zcat hs) hd ⟨hc1, hc2⟩) hS (fun q _ h => h) (fun q h => h) (fun u t H1 locs1 ht _ hw hB _ _ hS1 => k u hw H1 locs1 ls (by rw [← ht]; exact hB) hS1 hl)
theorem r_callS2i {K : zK} {X : zX} {cc : ByteArray} {own : String} {ret : Option FieldType} {nL f pc : Nat} {lo : List (Nat × Value)} {st : List Value} {ct : zE} {y : MethodName} {b : ByteArray} {nL2 f2 idx : Nat} {rt : Option FieldType} {a1 a2 : Value} {post : Int → zE → Prop} (O : zO K X cc own ret nL f) (hC : zCi K y b nL2 rt f2 [a1, a2] ct post) (hq : zQS own idx y b nL2 rt 2) (hf : f2 + 1 ≤ f) (hn : nL2 ≤ 13) (hs : (st.map fun v => v.category).sum ≤ 8) (hd : decode cc pc = .ok (.invokestatic idx, 3)) (k : ∀ (z : Int) (u : zE), post z u → G K X nL (pc + 3) lo (.int (iI z) :: st) u) : G K X nL pc lo (a2 :: a1 ::  st) ct := by
  obtain ⟨l, D, A, ad, N, cI, cC, cS⟩ := K
  obtain ⟨p, e, R, s, m, args, below, meth, c, Q, cells, slots⟩ := X
  obtain ⟨hx, hb, hr, hml, hown, hts, hlk, hK, hZ, hI, hf1, hf2, hc1, hc2⟩ := O
  intro H locs ls hP hS hl
  exact va_calli (va_runS (As := [a1, a2]) (rest := st) ⟨hx, hb, hml, hown, hts⟩ hC ⟨callB_of 2 hts (zgoodC hq.2.2.2.1) rfl rfl rfl (hts _ hq.2.2.1) (hts _ hq.1) hq.2.2.2.2 (zroom hf hn hf1 hf2), hts _ hq.2.1⟩ ⟨zblind, fun U hU hW => ⟨rfl, by rw [hU]; exact hP, va_K.moved hW.alike hK, zNest_warm hW hZ⟩⟩ rfl rfl hl.1 rfl (zcat hs) hd ⟨hc1, hc2⟩) hS (fun q _ h => h) (fun q h => h) (fun r u t H1 locs1 ht _ hw hB _ _ hS1 => by
    obtain ⟨z, rfl, hp⟩ := hw
    exact k z u hp H1 locs1 ls (by rw [← ht]; exact hB) hS1 hl)
theorem r_callS2v {K : zK} {X : zX} {cc : ByteArray} {own : String} {ret : Option FieldType} {nL f pc : Nat} {lo : List (Nat × Value)} {st : List Value} {ct : zE} {y : MethodName} {b : ByteArray} {nL2 f2 idx : Nat} {a1 a2 : Value} {post : zE → Prop} (O : zO K X cc own ret nL f) (hC : zCv K y b nL2 f2 [a1, a2] ct post) (hq : zQS own idx y b nL2 none 2) (hf : f2 + 1 ≤ f) (hn : nL2 ≤ 13) (hs : (st.map fun v => v.category).sum ≤ 8) (hd : decode cc pc = .ok (.invokestatic idx, 3)) (k : ∀ u : zE, post u → G K X nL (pc + 3) lo st u) : G K X nL pc lo (a2 :: a1 ::  st) ct := by
  obtain ⟨l, D, A, ad, N, cI, cC, cS⟩ := K
  obtain ⟨p, e, R, s, m, args, below, meth, c, Q, cells, slots⟩ := X
  obtain ⟨hx, hb, hr, hml, hown, hts, hlk, hK, hZ, hI, hf1, hf2, hc1, hc2⟩ := O
  intro H locs ls hP hS hl
  exact va_callv (va_runS (As := [a1, a2]) (rest := st) ⟨hx, hb, hml, hown, hts⟩ hC ⟨callB_of 2 hts (zgoodC hq.2.2.2.1) rfl rfl rfl (hts _ hq.2.2.1) (hts _ hq.1) hq.2.2.2.2 (zroom hf hn hf1 hf2), hts _ hq.2.1⟩ ⟨zblind, fun U hU hW => ⟨rfl, by rw [hU]; exact hP, va_K.moved hW.alike hK, zNest_warm hW hZ⟩⟩ rfl rfl hl.1 rfl (zcat hs) hd ⟨hc1, hc2⟩) hS (fun q _ h => h) (fun q h => h) (fun u t H1 locs1 ht _ hw hB _ _ hS1 => k u hw H1 locs1 ls (by rw [← ht]; exact hB) hS1 hl)
theorem r_callS3i {K : zK} {X : zX} {cc : ByteArray} {own : String} {ret : Option FieldType} {nL f pc : Nat} {lo : List (Nat × Value)} {st : List Value} {ct : zE} {y : MethodName} {b : ByteArray} {nL2 f2 idx : Nat} {rt : Option FieldType} {a1 a2 a3 : Value} {post : Int → zE → Prop} (O : zO K X cc own ret nL f) (hC : zCi K y b nL2 rt f2 [a1, a2, a3] ct post) (hq : zQS own idx y b nL2 rt 3) (hf : f2 + 1 ≤ f) (hn : nL2 ≤ 13) (hs : (st.map fun v => v.category).sum ≤ 8) (hd : decode cc pc = .ok (.invokestatic idx, 3)) (k : ∀ (z : Int) (u : zE), post z u → G K X nL (pc + 3) lo (.int (iI z) :: st) u) : G K X nL pc lo (a3 :: a2 :: a1 ::  st) ct := by
  obtain ⟨l, D, A, ad, N, cI, cC, cS⟩ := K
  obtain ⟨p, e, R, s, m, args, below, meth, c, Q, cells, slots⟩ := X
  obtain ⟨hx, hb, hr, hml, hown, hts, hlk, hK, hZ, hI, hf1, hf2, hc1, hc2⟩ := O
  intro H locs ls hP hS hl
  exact va_calli (va_runS (As := [a1, a2, a3]) (rest := st) ⟨hx, hb, hml, hown, hts⟩ hC ⟨callB_of 3 hts (zgoodC hq.2.2.2.1) rfl rfl rfl (hts _ hq.2.2.1) (hts _ hq.1) hq.2.2.2.2 (zroom hf hn hf1 hf2), hts _ hq.2.1⟩ ⟨zblind, fun U hU hW => ⟨rfl, by rw [hU]; exact hP, va_K.moved hW.alike hK, zNest_warm hW hZ⟩⟩ rfl rfl hl.1 rfl (zcat hs) hd ⟨hc1, hc2⟩) hS (fun q _ h => h) (fun q h => h) (fun r u t H1 locs1 ht _ hw hB _ _ hS1 => by
    obtain ⟨z, rfl, hp⟩ := hw
    exact k z u hp H1 locs1 ls (by rw [← ht]; exact hB) hS1 hl)
theorem r_callS3v {K : zK} {X : zX} {cc : ByteArray} {own : String} {ret : Option FieldType} {nL f pc : Nat} {lo : List (Nat × Value)} {st : List Value} {ct : zE} {y : MethodName} {b : ByteArray} {nL2 f2 idx : Nat} {a1 a2 a3 : Value} {post : zE → Prop} (O : zO K X cc own ret nL f) (hC : zCv K y b nL2 f2 [a1, a2, a3] ct post) (hq : zQS own idx y b nL2 none 3) (hf : f2 + 1 ≤ f) (hn : nL2 ≤ 13) (hs : (st.map fun v => v.category).sum ≤ 8) (hd : decode cc pc = .ok (.invokestatic idx, 3)) (k : ∀ u : zE, post u → G K X nL (pc + 3) lo st u) : G K X nL pc lo (a3 :: a2 :: a1 ::  st) ct := by
  obtain ⟨l, D, A, ad, N, cI, cC, cS⟩ := K
  obtain ⟨p, e, R, s, m, args, below, meth, c, Q, cells, slots⟩ := X
  obtain ⟨hx, hb, hr, hml, hown, hts, hlk, hK, hZ, hI, hf1, hf2, hc1, hc2⟩ := O
  intro H locs ls hP hS hl
  exact va_callv (va_runS (As := [a1, a2, a3]) (rest := st) ⟨hx, hb, hml, hown, hts⟩ hC ⟨callB_of 3 hts (zgoodC hq.2.2.2.1) rfl rfl rfl (hts _ hq.2.2.1) (hts _ hq.1) hq.2.2.2.2 (zroom hf hn hf1 hf2), hts _ hq.2.1⟩ ⟨zblind, fun U hU hW => ⟨rfl, by rw [hU]; exact hP, va_K.moved hW.alike hK, zNest_warm hW hZ⟩⟩ rfl rfl hl.1 rfl (zcat hs) hd ⟨hc1, hc2⟩) hS (fun q _ h => h) (fun q h => h) (fun u t H1 locs1 ht _ hw hB _ _ hS1 => k u hw H1 locs1 ls (by rw [← ht]; exact hB) hS1 hl)
theorem r_callS4i {K : zK} {X : zX} {cc : ByteArray} {own : String} {ret : Option FieldType} {nL f pc : Nat} {lo : List (Nat × Value)} {st : List Value} {ct : zE} {y : MethodName} {b : ByteArray} {nL2 f2 idx : Nat} {rt : Option FieldType} {a1 a2 a3 a4 : Value} {post : Int → zE → Prop} (O : zO K X cc own ret nL f) (hC : zCi K y b nL2 rt f2 [a1, a2, a3, a4] ct post) (hq : zQS own idx y b nL2 rt 4) (hf : f2 + 1 ≤ f) (hn : nL2 ≤ 13) (hs : (st.map fun v => v.category).sum ≤ 8) (hd : decode cc pc = .ok (.invokestatic idx, 3)) (k : ∀ (z : Int) (u : zE), post z u → G K X nL (pc + 3) lo (.int (iI z) :: st) u) : G K X nL pc lo (a4 :: a3 :: a2 :: a1 ::  st) ct := by
  obtain ⟨l, D, A, ad, N, cI, cC, cS⟩ := K
  obtain ⟨p, e, R, s, m, args, below, meth, c, Q, cells, slots⟩ := X
  obtain ⟨hx, hb, hr, hml, hown, hts, hlk, hK, hZ, hI, hf1, hf2, hc1, hc2⟩ := O
  intro H locs ls hP hS hl
  exact va_calli (va_runS (As := [a1, a2, a3, a4]) (rest := st) ⟨hx, hb, hml, hown, hts⟩ hC ⟨callB_of 4 hts (zgoodC hq.2.2.2.1) rfl rfl rfl (hts _ hq.2.2.1) (hts _ hq.1) hq.2.2.2.2 (zroom hf hn hf1 hf2), hts _ hq.2.1⟩ ⟨zblind, fun U hU hW => ⟨rfl, by rw [hU]; exact hP, va_K.moved hW.alike hK, zNest_warm hW hZ⟩⟩ rfl rfl hl.1 rfl (zcat hs) hd ⟨hc1, hc2⟩) hS (fun q _ h => h) (fun q h => h) (fun r u t H1 locs1 ht _ hw hB _ _ hS1 => by
    obtain ⟨z, rfl, hp⟩ := hw
    exact k z u hp H1 locs1 ls (by rw [← ht]; exact hB) hS1 hl)
theorem r_callS4v {K : zK} {X : zX} {cc : ByteArray} {own : String} {ret : Option FieldType} {nL f pc : Nat} {lo : List (Nat × Value)} {st : List Value} {ct : zE} {y : MethodName} {b : ByteArray} {nL2 f2 idx : Nat} {a1 a2 a3 a4 : Value} {post : zE → Prop} (O : zO K X cc own ret nL f) (hC : zCv K y b nL2 f2 [a1, a2, a3, a4] ct post) (hq : zQS own idx y b nL2 none 4) (hf : f2 + 1 ≤ f) (hn : nL2 ≤ 13) (hs : (st.map fun v => v.category).sum ≤ 8) (hd : decode cc pc = .ok (.invokestatic idx, 3)) (k : ∀ u : zE, post u → G K X nL (pc + 3) lo st u) : G K X nL pc lo (a4 :: a3 :: a2 :: a1 ::  st) ct := by
  obtain ⟨l, D, A, ad, N, cI, cC, cS⟩ := K
  obtain ⟨p, e, R, s, m, args, below, meth, c, Q, cells, slots⟩ := X
  obtain ⟨hx, hb, hr, hml, hown, hts, hlk, hK, hZ, hI, hf1, hf2, hc1, hc2⟩ := O
  intro H locs ls hP hS hl
  exact va_callv (va_runS (As := [a1, a2, a3, a4]) (rest := st) ⟨hx, hb, hml, hown, hts⟩ hC ⟨callB_of 4 hts (zgoodC hq.2.2.2.1) rfl rfl rfl (hts _ hq.2.2.1) (hts _ hq.1) hq.2.2.2.2 (zroom hf hn hf1 hf2), hts _ hq.2.1⟩ ⟨zblind, fun U hU hW => ⟨rfl, by rw [hU]; exact hP, va_K.moved hW.alike hK, zNest_warm hW hZ⟩⟩ rfl rfl hl.1 rfl (zcat hs) hd ⟨hc1, hc2⟩) hS (fun q _ h => h) (fun q h => h) (fun u t H1 locs1 ht _ hw hB _ _ hS1 => k u hw H1 locs1 ls (by rw [← ht]; exact hB) hS1 hl)
theorem r_callN0i {K : zK} {X : zX} {cc : ByteArray} {own : String} {ret : Option FieldType} {nL f pc : Nat} {lo : List (Nat × Value)} {st : List Value} {ct : zE} {y : MethodName} {b : ByteArray} {nL2 f2 idx : Nat} {rt : Option FieldType} {post : Int → zE → Prop} (O : zO K X cc own ret nL f) (hC : zCi K y b nL2 rt f2 [] ct post) (hq : zQN own idx y b nL2 rt 0) (hf : f2 + 1 ≤ f) (hn : nL2 ≤ 13) (hs : (st.map fun v => v.category).sum ≤ 8) (hd : decode cc pc = .ok (.invokestatic idx, 3)) (k : ∀ (z : Int) (u : zE), post z u → G K X nL (pc + 3) lo (.int (iI z) :: st) u) : G K X nL pc lo ( st) ct := by
  obtain ⟨l, D, A, ad, N, cI, cC, cS⟩ := K
  obtain ⟨p, e, R, s, m, args, below, meth, c, Q, cells, slots⟩ := X
  obtain ⟨hx, hb, hr, hml, hown, hts, hlk, hK, hZ, hI, hf1, hf2, hc1, hc2⟩ := O
  intro H locs ls hP hS hl
  exact va_calli (va_runSN (As := []) (rest := st) ⟨hx, hb, hml, hown, hts⟩ hC ⟨va_cnB 0 hts (zgoodC hq.2.2.2.1) rfl rfl rfl (hq.1 _ hZ) (hts _ hq.2.2.1) hq.2.2.2.2 (zroom hf hn hf1 hf2), hts _ hq.2.1, trivial⟩ ⟨zblind, fun U hU hW => ⟨rfl, by rw [hU]; exact hP, va_K.moved hW.alike hK, zNest_warm hW hZ⟩⟩ rfl rfl hl.1 rfl (zcat hs) hd ⟨hc1, hc2⟩) hS (fun q _ h => h) (fun q h => h) (fun r u t H1 locs1 ht _ hw hB _ _ hS1 => by
    obtain ⟨z, rfl, hp⟩ := hw
    exact k z u hp H1 locs1 ls (by rw [← ht]; exact hB) hS1 hl)
theorem r_callN0v {K : zK} {X : zX} {cc : ByteArray} {own : String} {ret : Option FieldType} {nL f pc : Nat} {lo : List (Nat × Value)} {st : List Value} {ct : zE} {y : MethodName} {b : ByteArray} {nL2 f2 idx : Nat} {post : zE → Prop} (O : zO K X cc own ret nL f) (hC : zCv K y b nL2 f2 [] ct post) (hq : zQN own idx y b nL2 none 0) (hf : f2 + 1 ≤ f) (hn : nL2 ≤ 13) (hs : (st.map fun v => v.category).sum ≤ 8) (hd : decode cc pc = .ok (.invokestatic idx, 3)) (k : ∀ u : zE, post u → G K X nL (pc + 3) lo st u) : G K X nL pc lo ( st) ct := by
  obtain ⟨l, D, A, ad, N, cI, cC, cS⟩ := K
  obtain ⟨p, e, R, s, m, args, below, meth, c, Q, cells, slots⟩ := X
  obtain ⟨hx, hb, hr, hml, hown, hts, hlk, hK, hZ, hI, hf1, hf2, hc1, hc2⟩ := O
  intro H locs ls hP hS hl
  exact va_callv (va_runSN (As := []) (rest := st) ⟨hx, hb, hml, hown, hts⟩ hC ⟨va_cnB 0 hts (zgoodC hq.2.2.2.1) rfl rfl rfl (hq.1 _ hZ) (hts _ hq.2.2.1) hq.2.2.2.2 (zroom hf hn hf1 hf2), hts _ hq.2.1, trivial⟩ ⟨zblind, fun U hU hW => ⟨rfl, by rw [hU]; exact hP, va_K.moved hW.alike hK, zNest_warm hW hZ⟩⟩ rfl rfl hl.1 rfl (zcat hs) hd ⟨hc1, hc2⟩) hS (fun q _ h => h) (fun q h => h) (fun u t H1 locs1 ht _ hw hB _ _ hS1 => k u hw H1 locs1 ls (by rw [← ht]; exact hB) hS1 hl)
theorem r_callN1i {K : zK} {X : zX} {cc : ByteArray} {own : String} {ret : Option FieldType} {nL f pc : Nat} {lo : List (Nat × Value)} {st : List Value} {ct : zE} {y : MethodName} {b : ByteArray} {nL2 f2 idx : Nat} {rt : Option FieldType} {a1 : Value} {post : Int → zE → Prop} (O : zO K X cc own ret nL f) (hC : zCi K y b nL2 rt f2 [a1] ct post) (hq : zQN own idx y b nL2 rt 1) (hf : f2 + 1 ≤ f) (hn : nL2 ≤ 13) (hs : (st.map fun v => v.category).sum ≤ 8) (hd : decode cc pc = .ok (.invokestatic idx, 3)) (k : ∀ (z : Int) (u : zE), post z u → G K X nL (pc + 3) lo (.int (iI z) :: st) u) : G K X nL pc lo (a1 ::  st) ct := by
  obtain ⟨l, D, A, ad, N, cI, cC, cS⟩ := K
  obtain ⟨p, e, R, s, m, args, below, meth, c, Q, cells, slots⟩ := X
  obtain ⟨hx, hb, hr, hml, hown, hts, hlk, hK, hZ, hI, hf1, hf2, hc1, hc2⟩ := O
  intro H locs ls hP hS hl
  exact va_calli (va_runSN (As := [a1]) (rest := st) ⟨hx, hb, hml, hown, hts⟩ hC ⟨va_cnB 1 hts (zgoodC hq.2.2.2.1) rfl rfl rfl (hq.1 _ hZ) (hts _ hq.2.2.1) hq.2.2.2.2 (zroom hf hn hf1 hf2), hts _ hq.2.1, trivial⟩ ⟨zblind, fun U hU hW => ⟨rfl, by rw [hU]; exact hP, va_K.moved hW.alike hK, zNest_warm hW hZ⟩⟩ rfl rfl hl.1 rfl (zcat hs) hd ⟨hc1, hc2⟩) hS (fun q _ h => h) (fun q h => h) (fun r u t H1 locs1 ht _ hw hB _ _ hS1 => by
    obtain ⟨z, rfl, hp⟩ := hw
    exact k z u hp H1 locs1 ls (by rw [← ht]; exact hB) hS1 hl)
theorem r_callN1v {K : zK} {X : zX} {cc : ByteArray} {own : String} {ret : Option FieldType} {nL f pc : Nat} {lo : List (Nat × Value)} {st : List Value} {ct : zE} {y : MethodName} {b : ByteArray} {nL2 f2 idx : Nat} {a1 : Value} {post : zE → Prop} (O : zO K X cc own ret nL f) (hC : zCv K y b nL2 f2 [a1] ct post) (hq : zQN own idx y b nL2 none 1) (hf : f2 + 1 ≤ f) (hn : nL2 ≤ 13) (hs : (st.map fun v => v.category).sum ≤ 8) (hd : decode cc pc = .ok (.invokestatic idx, 3)) (k : ∀ u : zE, post u → G K X nL (pc + 3) lo st u) : G K X nL pc lo (a1 ::  st) ct := by
  obtain ⟨l, D, A, ad, N, cI, cC, cS⟩ := K
  obtain ⟨p, e, R, s, m, args, below, meth, c, Q, cells, slots⟩ := X
  obtain ⟨hx, hb, hr, hml, hown, hts, hlk, hK, hZ, hI, hf1, hf2, hc1, hc2⟩ := O
  intro H locs ls hP hS hl
  exact va_callv (va_runSN (As := [a1]) (rest := st) ⟨hx, hb, hml, hown, hts⟩ hC ⟨va_cnB 1 hts (zgoodC hq.2.2.2.1) rfl rfl rfl (hq.1 _ hZ) (hts _ hq.2.2.1) hq.2.2.2.2 (zroom hf hn hf1 hf2), hts _ hq.2.1, trivial⟩ ⟨zblind, fun U hU hW => ⟨rfl, by rw [hU]; exact hP, va_K.moved hW.alike hK, zNest_warm hW hZ⟩⟩ rfl rfl hl.1 rfl (zcat hs) hd ⟨hc1, hc2⟩) hS (fun q _ h => h) (fun q h => h) (fun u t H1 locs1 ht _ hw hB _ _ hS1 => k u hw H1 locs1 ls (by rw [← ht]; exact hB) hS1 hl)
theorem r_callN2i {K : zK} {X : zX} {cc : ByteArray} {own : String} {ret : Option FieldType} {nL f pc : Nat} {lo : List (Nat × Value)} {st : List Value} {ct : zE} {y : MethodName} {b : ByteArray} {nL2 f2 idx : Nat} {rt : Option FieldType} {a1 a2 : Value} {post : Int → zE → Prop} (O : zO K X cc own ret nL f) (hC : zCi K y b nL2 rt f2 [a1, a2] ct post) (hq : zQN own idx y b nL2 rt 2) (hf : f2 + 1 ≤ f) (hn : nL2 ≤ 13) (hs : (st.map fun v => v.category).sum ≤ 8) (hd : decode cc pc = .ok (.invokestatic idx, 3)) (k : ∀ (z : Int) (u : zE), post z u → G K X nL (pc + 3) lo (.int (iI z) :: st) u) : G K X nL pc lo (a2 :: a1 ::  st) ct := by
  obtain ⟨l, D, A, ad, N, cI, cC, cS⟩ := K
  obtain ⟨p, e, R, s, m, args, below, meth, c, Q, cells, slots⟩ := X
  obtain ⟨hx, hb, hr, hml, hown, hts, hlk, hK, hZ, hI, hf1, hf2, hc1, hc2⟩ := O
  intro H locs ls hP hS hl
  exact va_calli (va_runSN (As := [a1, a2]) (rest := st) ⟨hx, hb, hml, hown, hts⟩ hC ⟨va_cnB 2 hts (zgoodC hq.2.2.2.1) rfl rfl rfl (hq.1 _ hZ) (hts _ hq.2.2.1) hq.2.2.2.2 (zroom hf hn hf1 hf2), hts _ hq.2.1, trivial⟩ ⟨zblind, fun U hU hW => ⟨rfl, by rw [hU]; exact hP, va_K.moved hW.alike hK, zNest_warm hW hZ⟩⟩ rfl rfl hl.1 rfl (zcat hs) hd ⟨hc1, hc2⟩) hS (fun q _ h => h) (fun q h => h) (fun r u t H1 locs1 ht _ hw hB _ _ hS1 => by
    obtain ⟨z, rfl, hp⟩ := hw
    exact k z u hp H1 locs1 ls (by rw [← ht]; exact hB) hS1 hl)
theorem r_callN2v {K : zK} {X : zX} {cc : ByteArray} {own : String} {ret : Option FieldType} {nL f pc : Nat} {lo : List (Nat × Value)} {st : List Value} {ct : zE} {y : MethodName} {b : ByteArray} {nL2 f2 idx : Nat} {a1 a2 : Value} {post : zE → Prop} (O : zO K X cc own ret nL f) (hC : zCv K y b nL2 f2 [a1, a2] ct post) (hq : zQN own idx y b nL2 none 2) (hf : f2 + 1 ≤ f) (hn : nL2 ≤ 13) (hs : (st.map fun v => v.category).sum ≤ 8) (hd : decode cc pc = .ok (.invokestatic idx, 3)) (k : ∀ u : zE, post u → G K X nL (pc + 3) lo st u) : G K X nL pc lo (a2 :: a1 ::  st) ct := by
  obtain ⟨l, D, A, ad, N, cI, cC, cS⟩ := K
  obtain ⟨p, e, R, s, m, args, below, meth, c, Q, cells, slots⟩ := X
  obtain ⟨hx, hb, hr, hml, hown, hts, hlk, hK, hZ, hI, hf1, hf2, hc1, hc2⟩ := O
  intro H locs ls hP hS hl
  exact va_callv (va_runSN (As := [a1, a2]) (rest := st) ⟨hx, hb, hml, hown, hts⟩ hC ⟨va_cnB 2 hts (zgoodC hq.2.2.2.1) rfl rfl rfl (hq.1 _ hZ) (hts _ hq.2.2.1) hq.2.2.2.2 (zroom hf hn hf1 hf2), hts _ hq.2.1, trivial⟩ ⟨zblind, fun U hU hW => ⟨rfl, by rw [hU]; exact hP, va_K.moved hW.alike hK, zNest_warm hW hZ⟩⟩ rfl rfl hl.1 rfl (zcat hs) hd ⟨hc1, hc2⟩) hS (fun q _ h => h) (fun q h => h) (fun u t H1 locs1 ht _ hw hB _ _ hS1 => k u hw H1 locs1 ls (by rw [← ht]; exact hB) hS1 hl)
theorem r_callN3i {K : zK} {X : zX} {cc : ByteArray} {own : String} {ret : Option FieldType} {nL f pc : Nat} {lo : List (Nat × Value)} {st : List Value} {ct : zE} {y : MethodName} {b : ByteArray} {nL2 f2 idx : Nat} {rt : Option FieldType} {a1 a2 a3 : Value} {post : Int → zE → Prop} (O : zO K X cc own ret nL f) (hC : zCi K y b nL2 rt f2 [a1, a2, a3] ct post) (hq : zQN own idx y b nL2 rt 3) (hf : f2 + 1 ≤ f) (hn : nL2 ≤ 13) (hs : (st.map fun v => v.category).sum ≤ 8) (hd : decode cc pc = .ok (.invokestatic idx, 3)) (k : ∀ (z : Int) (u : zE), post z u → G K X nL (pc + 3) lo (.int (iI z) :: st) u) : G K X nL pc lo (a3 :: a2 :: a1 ::  st) ct := by
  obtain ⟨l, D, A, ad, N, cI, cC, cS⟩ := K
  obtain ⟨p, e, R, s, m, args, below, meth, c, Q, cells, slots⟩ := X
  obtain ⟨hx, hb, hr, hml, hown, hts, hlk, hK, hZ, hI, hf1, hf2, hc1, hc2⟩ := O
  intro H locs ls hP hS hl
  exact va_calli (va_runSN (As := [a1, a2, a3]) (rest := st) ⟨hx, hb, hml, hown, hts⟩ hC ⟨va_cnB 3 hts (zgoodC hq.2.2.2.1) rfl rfl rfl (hq.1 _ hZ) (hts _ hq.2.2.1) hq.2.2.2.2 (zroom hf hn hf1 hf2), hts _ hq.2.1, trivial⟩ ⟨zblind, fun U hU hW => ⟨rfl, by rw [hU]; exact hP, va_K.moved hW.alike hK, zNest_warm hW hZ⟩⟩ rfl rfl hl.1 rfl (zcat hs) hd ⟨hc1, hc2⟩) hS (fun q _ h => h) (fun q h => h) (fun r u t H1 locs1 ht _ hw hB _ _ hS1 => by
    obtain ⟨z, rfl, hp⟩ := hw
    exact k z u hp H1 locs1 ls (by rw [← ht]; exact hB) hS1 hl)
theorem r_callN3v {K : zK} {X : zX} {cc : ByteArray} {own : String} {ret : Option FieldType} {nL f pc : Nat} {lo : List (Nat × Value)} {st : List Value} {ct : zE} {y : MethodName} {b : ByteArray} {nL2 f2 idx : Nat} {a1 a2 a3 : Value} {post : zE → Prop} (O : zO K X cc own ret nL f) (hC : zCv K y b nL2 f2 [a1, a2, a3] ct post) (hq : zQN own idx y b nL2 none 3) (hf : f2 + 1 ≤ f) (hn : nL2 ≤ 13) (hs : (st.map fun v => v.category).sum ≤ 8) (hd : decode cc pc = .ok (.invokestatic idx, 3)) (k : ∀ u : zE, post u → G K X nL (pc + 3) lo st u) : G K X nL pc lo (a3 :: a2 :: a1 ::  st) ct := by
  obtain ⟨l, D, A, ad, N, cI, cC, cS⟩ := K
  obtain ⟨p, e, R, s, m, args, below, meth, c, Q, cells, slots⟩ := X
  obtain ⟨hx, hb, hr, hml, hown, hts, hlk, hK, hZ, hI, hf1, hf2, hc1, hc2⟩ := O
  intro H locs ls hP hS hl
  exact va_callv (va_runSN (As := [a1, a2, a3]) (rest := st) ⟨hx, hb, hml, hown, hts⟩ hC ⟨va_cnB 3 hts (zgoodC hq.2.2.2.1) rfl rfl rfl (hq.1 _ hZ) (hts _ hq.2.2.1) hq.2.2.2.2 (zroom hf hn hf1 hf2), hts _ hq.2.1, trivial⟩ ⟨zblind, fun U hU hW => ⟨rfl, by rw [hU]; exact hP, va_K.moved hW.alike hK, zNest_warm hW hZ⟩⟩ rfl rfl hl.1 rfl (zcat hs) hd ⟨hc1, hc2⟩) hS (fun q _ h => h) (fun q h => h) (fun u t H1 locs1 ht _ hw hB _ _ hS1 => k u hw H1 locs1 ls (by rw [← ht]; exact hB) hS1 hl)
theorem r_callN4i {K : zK} {X : zX} {cc : ByteArray} {own : String} {ret : Option FieldType} {nL f pc : Nat} {lo : List (Nat × Value)} {st : List Value} {ct : zE} {y : MethodName} {b : ByteArray} {nL2 f2 idx : Nat} {rt : Option FieldType} {a1 a2 a3 a4 : Value} {post : Int → zE → Prop} (O : zO K X cc own ret nL f) (hC : zCi K y b nL2 rt f2 [a1, a2, a3, a4] ct post) (hq : zQN own idx y b nL2 rt 4) (hf : f2 + 1 ≤ f) (hn : nL2 ≤ 13) (hs : (st.map fun v => v.category).sum ≤ 8) (hd : decode cc pc = .ok (.invokestatic idx, 3)) (k : ∀ (z : Int) (u : zE), post z u → G K X nL (pc + 3) lo (.int (iI z) :: st) u) : G K X nL pc lo (a4 :: a3 :: a2 :: a1 ::  st) ct := by
  obtain ⟨l, D, A, ad, N, cI, cC, cS⟩ := K
  obtain ⟨p, e, R, s, m, args, below, meth, c, Q, cells, slots⟩ := X
  obtain ⟨hx, hb, hr, hml, hown, hts, hlk, hK, hZ, hI, hf1, hf2, hc1, hc2⟩ := O
  intro H locs ls hP hS hl
  exact va_calli (va_runSN (As := [a1, a2, a3, a4]) (rest := st) ⟨hx, hb, hml, hown, hts⟩ hC ⟨va_cnB 4 hts (zgoodC hq.2.2.2.1) rfl rfl rfl (hq.1 _ hZ) (hts _ hq.2.2.1) hq.2.2.2.2 (zroom hf hn hf1 hf2), hts _ hq.2.1, trivial⟩ ⟨zblind, fun U hU hW => ⟨rfl, by rw [hU]; exact hP, va_K.moved hW.alike hK, zNest_warm hW hZ⟩⟩ rfl rfl hl.1 rfl (zcat hs) hd ⟨hc1, hc2⟩) hS (fun q _ h => h) (fun q h => h) (fun r u t H1 locs1 ht _ hw hB _ _ hS1 => by
    obtain ⟨z, rfl, hp⟩ := hw
    exact k z u hp H1 locs1 ls (by rw [← ht]; exact hB) hS1 hl)
theorem r_callN4v {K : zK} {X : zX} {cc : ByteArray} {own : String} {ret : Option FieldType} {nL f pc : Nat} {lo : List (Nat × Value)} {st : List Value} {ct : zE} {y : MethodName} {b : ByteArray} {nL2 f2 idx : Nat} {a1 a2 a3 a4 : Value} {post : zE → Prop} (O : zO K X cc own ret nL f) (hC : zCv K y b nL2 f2 [a1, a2, a3, a4] ct post) (hq : zQN own idx y b nL2 none 4) (hf : f2 + 1 ≤ f) (hn : nL2 ≤ 13) (hs : (st.map fun v => v.category).sum ≤ 8) (hd : decode cc pc = .ok (.invokestatic idx, 3)) (k : ∀ u : zE, post u → G K X nL (pc + 3) lo st u) : G K X nL pc lo (a4 :: a3 :: a2 :: a1 ::  st) ct := by
  obtain ⟨l, D, A, ad, N, cI, cC, cS⟩ := K
  obtain ⟨p, e, R, s, m, args, below, meth, c, Q, cells, slots⟩ := X
  obtain ⟨hx, hb, hr, hml, hown, hts, hlk, hK, hZ, hI, hf1, hf2, hc1, hc2⟩ := O
  intro H locs ls hP hS hl
  exact va_callv (va_runSN (As := [a1, a2, a3, a4]) (rest := st) ⟨hx, hb, hml, hown, hts⟩ hC ⟨va_cnB 4 hts (zgoodC hq.2.2.2.1) rfl rfl rfl (hq.1 _ hZ) (hts _ hq.2.2.1) hq.2.2.2.2 (zroom hf hn hf1 hf2), hts _ hq.2.1, trivial⟩ ⟨zblind, fun U hU hW => ⟨rfl, by rw [hU]; exact hP, va_K.moved hW.alike hK, zNest_warm hW hZ⟩⟩ rfl rfl hl.1 rfl (zcat hs) hd ⟨hc1, hc2⟩) hS (fun q _ h => h) (fun q h => h) (fun u t H1 locs1 ht _ hw hB _ _ hS1 => k u hw H1 locs1 ls (by rw [← ht]; exact hB) hS1 hl)
end
section
theorem zz_test : True := trivial
end
