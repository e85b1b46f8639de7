set_option maxHeartbeats 4000000 in
theorem C_X6_in {K : zK} (hI : zInj K) (ct : zE) (a l h : Int) (ba : zB a) (bl : zB l) (bh : zB h) : zCi K yX6_in cX6_in 3 (some .boolean) 0 [.int (iI a), .int (iI l), .int (iI h)] ct (fun z u => z = inI a l h ∧ u = ct) := by
  obtain ⟨ba1, ba2⟩ := id ba
  obtain ⟨bl1, bl2⟩ := id bl
  obtain ⟨bh1, bh2⟩ := id bh
  refine zCi_in hI (by decide +kernel) (Nat.le_of_ble_eq_true rfl) (fun X O hE => ?_)
  refine n_iload_n O dX6_in_0 rfl ?_
  refine n_iload_n O dX6_in_1 rfl ?_
  refine r_icmp_lt (tgt := 14) O ⟨by omega, by omega⟩ ⟨by omega, by omega⟩ dX6_in_2 (by decide) (fun hc2 => ?_) (fun hc2 => ?_)
  · skip
    refine r_iconst O dX6_in_14 ?_
    exact hE _ _ _ _ dX6_in_15 (nar01 (by omega)) ⟨by unfold inI; first | rw [if_pos (by omega)] | rw [if_neg (by omega)], rfl⟩
  · skip
    refine n_iload_n O dX6_in_5 rfl ?_
    refine n_iload_n O dX6_in_6 rfl ?_
    refine r_icmp_gt (tgt := 14) O ⟨by omega, by omega⟩ ⟨by omega, by omega⟩ dX6_in_7 (by decide) (fun hc7 => ?_) (fun hc7 => ?_)
    · skip
      refine r_iconst O dX6_in_14 ?_
      exact hE _ _ _ _ dX6_in_15 (nar01 (by omega)) ⟨by unfold inI; first | rw [if_pos (by omega)] | rw [if_neg (by omega)], rfl⟩
    · skip
      refine r_iconst O dX6_in_10 ?_
      refine r_goto (tgt := 15) O dX6_in_11 (by decide) ?_
      exact hE _ _ _ _ dX6_in_15 (nar01 (by omega)) ⟨by unfold inI; first | rw [if_pos (by omega)] | rw [if_neg (by omega)], rfl⟩
set_option maxHeartbeats 4000000 in
theorem C_X6_ones {K : zK} (hI : zInj K) (ct : zE) (s : Nat) (hs : s < 128) : zCi K yX6_ones cX6_ones 3 (some .int) 0 [.int (iI (s : Int))] ct (fun z u => z = ((popN s : Nat) : Int) ∧ u = ct) := by
  refine zCi_in hI (by decide +kernel) (Nat.le_of_ble_eq_true rfl) (fun X O hE => ?_)
  refine r_iconst O dX6_ones_0 ?_
  refine n_istore_n O dX6_ones_1 (by decide) rfl ?_
  refine r_iconst O dX6_ones_2 ?_
  refine n_istore_n O dX6_ones_3 (by decide) rfl ?_
  have L4 : ∀ (zk : Nat) (k : Nat), (k ≤ 7) → 7 - k = zk → G K X 3 4 [(0, .int (iI (s : Int))), (1, .int (iI ((popK s k : Nat) : Int))), (2, .int (iI (k : Int)))] [] ct := by
    intro zk
    induction zk using Nat.strongRecOn with
    | ind zk ih4 =>
      intro k hinv hk
      refine n_iload_n O dX6_ones_4 rfl ?_
      refine r_bipush O (by decide +kernel) dX6_ones_5 ?_
      refine r_icmp_ge (tgt := 24) O ⟨by omega, by omega⟩ ⟨by omega, by omega⟩ dX6_ones_7 (by decide) (fun hc7 => ?_) (fun hc7 => ?_)
      · skip
        refine n_iload_n O dX6_ones_24 rfl ?_
        exact hE _ _ _ _ dX6_ones_25 rfl (by have e : k = 7 := (by omega); rw [e, popK_7]; exact ⟨rfl, rfl⟩)
      · skip
        refine n_iload_n O dX6_ones_10 rfl ?_
        refine n_iload_n O dX6_ones_11 rfl ?_
        refine n_iload_n O dX6_ones_12 rfl ?_
        refine r_ishr O (bit_shr hs (by omega)) dX6_ones_13 ?_
        refine r_iconst O dX6_ones_14 ?_
        refine r_iand O (bit_and1 (bit_d6 s hs k (by omega))) dX6_ones_15 ?_
        refine r_iadd O dX6_ones_16 ?_
        refine n_istore_n O dX6_ones_17 (by decide) rfl ?_
        refine n_iinc O dX6_ones_18 (by decide) rfl rfl ?_
        refine r_goto (tgt := 4) O dX6_ones_21 (by decide) ?_
        exact G_chk (ih4 _ (by omega) (k + 1) (by omega) rfl) (zsc rfl (zsc rfl (zsc rfl zsn)))
  exact G_chk (L4 _ 0 (by omega) rfl) (zsc rfl (zsc rfl (zsc rfl zsn)))
set_option maxHeartbeats 4000000 in
theorem C_X6_isFigure {K : zK} (hI : zInj K) (ct : zE) (a : Int) (ba : zB a) : zCi K yX6_isFigure cX6_isFigure 1 (some .boolean) 1 [.int (iI a)] ct (fun z u => z = inI a 48 57 ∧ u = ct) := by
  obtain ⟨ba1, ba2⟩ := id ba
  refine zCi_in hI (by decide +kernel) (Nat.le_of_ble_eq_true rfl) (fun X O hE => ?_)
  refine n_iload_n O dX6_isFigure_0 rfl ?_
  refine r_bipush O (by decide +kernel) dX6_isFigure_1 ?_
  refine r_bipush O (by decide +kernel) dX6_isFigure_3 ?_
  refine r_callS3i O (C_X6_in hI _ _ _ _ ⟨by omega, by omega⟩ ⟨by omega, by omega⟩ ⟨by omega, by omega⟩) q_X6_50 (by decide) (by decide) (Nat.le_of_ble_eq_true rfl) dX6_isFigure_5 (fun zz5 zu5 hz5 => ?_)
  obtain ⟨hzi5, rfl⟩ := hz5
  have hic5 := inI_c hzi5
  exact hE _ _ _ _ dX6_isFigure_8 (nar01 (by omega)) ⟨by omega, rfl⟩
set_option maxHeartbeats 4000000 in
theorem C_X6_orders {K : zK} (hI : zInj K) (ct : zE) (m : Nat) (hm : m < 8) : zCi K yX6_orders cX6_orders 3 (some .int) 0 [.int (iI (m : Int))] ct (fun z u => z = facN m ∧ u = ct) := by
  refine zCi_in hI (by decide +kernel) (Nat.le_of_ble_eq_true rfl) (fun X O hE => ?_)
  refine r_iconst O dX6_orders_0 ?_
  refine n_istore_n O dX6_orders_1 (by decide) rfl ?_
  refine r_iconst O dX6_orders_2 ?_
  refine n_istore_n O dX6_orders_3 (by decide) rfl ?_
  have L4 : ∀ (zk : Nat) (q : Nat), (1 ≤ q ∧ (q ≤ m ∨ q = 1)) → 8 - q = zk → G K X 3 4 [(0, .int (iI (m : Int))), (1, .int (iI (facN q))), (2, .int (iI ((q : Int) + 1)))] [] ct := by
    intro zk
    induction zk using Nat.strongRecOn with
    | ind zk ih4 =>
      intro q hinv hk
      obtain ⟨hq1, hq2⟩ := hinv
      refine n_iload_n O dX6_orders_4 rfl ?_
      refine n_iload_n O dX6_orders_5 rfl ?_
      refine r_icmp_gt (tgt := 19) O ⟨by omega, by omega⟩ ⟨by omega, by omega⟩ dX6_orders_6 (by decide) (fun hc6 => ?_) (fun hc6 => ?_)
      · skip
        refine n_iload_n O dX6_orders_19 rfl ?_
        exact hE _ _ _ _ dX6_orders_20 rfl ⟨(facN_e hq1 hq2 (by omega)).symm, rfl⟩
      · skip
        refine n_iload_n O dX6_orders_9 rfl ?_
        refine n_iload_n O dX6_orders_10 rfl ?_
        refine r_imul O dX6_orders_11 ?_
        refine n_istore_n O dX6_orders_12 (by decide) rfl ?_
        refine n_iinc O dX6_orders_13 (by decide) rfl rfl ?_
        refine r_goto (tgt := 4) O dX6_orders_16 (by decide) ?_
        exact G_chk (ih4 _ (by omega) (q + 1) (by omega) rfl) (zsc rfl (zsc rfl (zsc rfl zsn)))
  exact G_chk (L4 _ 1 (by omega) rfl) (zsc rfl (zsc rfl (zsc rfl zsn)))
set_option maxHeartbeats 4000000 in
theorem C_X6_all {K : zK} (hI : zInj K) (hM : kN K = 11) (tx : Int → Int) (ty : Int) (td dr bg ss pa : Int → Int) (kn : Int) (im : Int → Int) (kp : Int) (ns : Int → Int) (nd ap la : Int) (hh tt : Int → Int) (n : Nat) (hn : n ≤ 7) (h0 : td 0 = (n : Int)) : zCi K yX6_all cX6_all 1 (some .int) 0 [.ref (kad K 0)] (layM K tx ty td dr bg ss pa kn im kp ns nd ap la hh tt) (fun z u => z = ((2 ^ n - 1 : Nat) : Int) ∧ u = (layM K tx ty td dr bg ss pa kn im kp ns nd ap la hh tt)) := by
  refine zCi_in hI (by decide +kernel) (Nat.le_of_ble_eq_true rfl) (fun X O hE => ?_)
  refine r_iconst O dX6_all_0 ?_
  refine n_aload_n O dX6_all_1 rfl ?_
  refine m_get_td O hM fl_X6_13 dX6_all_2 ?_
  refine r_iconst O dX6_all_5 ?_
  refine m_ld_td O hM (by omega) (by omega) dX6_all_6 ?_
  refine r_ishl O (by rw [h0]; exact bit_shl (by omega)) dX6_all_7 ?_
  refine r_iconst O dX6_all_8 ?_
  refine r_isub O dX6_all_9 ?_
  exact hE _ _ _ _ dX6_all_10 rfl ⟨by have := pow_b n (by omega); omega, rfl⟩
set_option maxHeartbeats 4000000 in
theorem C_X6_isMember {K : zK} (hI : zInj K) (hM : kN K = 11) (tx : Int → Int) (ty : Int) (td dr bg ss pa : Int → Int) (kn : Int) (im : Int → Int) (kp : Int) (ns : Int → Int) (nd ap la : Int) (hh tt : Int → Int) (h0 : 0 ≤ td 0 ∧ td 0 ≤ 7) (i : Int) (bi : zB i)  : zCi K yX6_isMember cX6_isMember 2 (some .boolean) 1 [.ref (kad K 0), .int (iI i)] (layM K tx ty td dr bg ss pa kn im kp ns nd ap la hh tt) (fun z u => z = inI i 0 (td 0 - 1) ∧ u = (layM K tx ty td dr bg ss pa kn im kp ns nd ap la hh tt)) := by
  obtain ⟨bi1, bi2⟩ := id bi
  refine zCi_in hI (by decide +kernel) (Nat.le_of_ble_eq_true rfl) (fun X O hE => ?_)
  refine n_iload_n O dX6_isMember_0 rfl ?_
  refine r_iconst O dX6_isMember_1 ?_
  refine n_aload_n O dX6_isMember_2 rfl ?_
  refine m_get_td O hM fl_X6_13 dX6_isMember_3 ?_
  refine r_iconst O dX6_isMember_6 ?_
  refine m_ld_td O hM (by omega) (by omega) dX6_isMember_7 ?_
  refine r_iconst O dX6_isMember_8 ?_
  refine r_isub O dX6_isMember_9 ?_
  refine r_callS3i O (C_X6_in hI _ _ _ _ ⟨by omega, by omega⟩ ⟨by omega, by omega⟩ ⟨by omega, by omega⟩) q_X6_50 (by decide) (by decide) (Nat.le_of_ble_eq_true rfl) dX6_isMember_10 (fun zz10 zu10 hz10 => ?_)
  obtain ⟨hzi10, rfl⟩ := hz10
  have hic10 := inI_c hzi10
  exact hE _ _ _ _ dX6_isMember_13 (nar01 (by omega)) ⟨by omega, rfl⟩
set_option maxHeartbeats 4000000 in
theorem C_X6_wouldEat {K : zK} (hI : zInj K) (hM : kN K = 11) (tx : Int → Int) (ty : Int) (td dr bg ss pa : Int → Int) (kn : Int) (im : Int → Int) (kp : Int) (ns : Int → Int) (nd ap la : Int) (hh tt : Int → Int) (v : SV) (hv : okV v) (hr : mR td ss v) (i : Int) (h0 : 0 ≤ i) (h1 : i < qn v) : zCi K yX6_wouldEat cX6_wouldEat 7 (some .int) 0 [.ref (kad K 0), .int (iI i)] (layM K tx ty td dr bg ss pa kn im kp ns nd ap la hh tt) (fun z u => z = shareV v i ∧ u = (layM K tx ty td dr bg ss pa kn im kp ns nd ap la hh tt)) := by
  obtain ⟨hn7, ham, hhe, hsa, hro, hfa, hm⟩ := id hv
  obtain ⟨r1, r2, r3, r4, r5, r6, rm⟩ := id hr
  obtain ⟨x1, x2, x3, x4, x5⟩ := rm i h0 h1
  have hi : (0 ≤ qkd v i ∧ qkd v i ≤ 3) ∧ (1 ≤ qsp v i ∧ qsp v i ≤ 9) ∧ (0 ≤ qhu v i ∧ qhu v i ≤ 60) ∧ (0 ≤ qbe v i ∧ qbe v i ≤ 9) := hm i h0 h1
  refine zCi_in hI (by decide +kernel) (Nat.le_of_ble_eq_true rfl) (fun X O hE => ?_)
  have L112 : ∀ (b q : Int), (((b = 1 ∧ ¬ (qbe v i < qsa v ∨ hotV (qkd v i) < qhe v)) ∨ (b = 0 ∧ (qbe v i < qsa v ∨ hotV (qkd v i) < qhe v))) ∧ q = (if qkd v i = 2 then 2 * qsp v i else if qkd v i = 3 then 1 else qsp v i) ∧ 0 ≤ q ∧ q ≤ 18) → G K X 7 112 [(0, .ref (kad K 0)), (1, .int (iI i)), (2, .int (iI (ss i))), (3, .int (iI (ss 29))), (4, .int (iI b))] [.int (iI q)] (layM K tx ty td dr bg ss pa kn im kp ns nd ap la hh tt) := by
    intro b q hinv
    obtain ⟨hb, hq, hq0, hq1⟩ := hinv
    refine n_istore O dX6_wouldEat_112 (by decide) rfl ?_
    refine n_iload O dX6_wouldEat_114 rfl ?_
    refine n_aload_n O dX6_wouldEat_116 rfl ?_
    refine m_get_ss O hM fl_X6_22 dX6_wouldEat_117 ?_
    refine r_bipush O (by decide +kernel) dX6_wouldEat_120 ?_
    refine n_iload_n O dX6_wouldEat_122 rfl ?_
    refine r_iadd O dX6_wouldEat_123 ?_
    refine m_ld_ss O hM (by omega) (by omega) dX6_wouldEat_124 ?_
    refine r_icmp_ge (tgt := 133) O ⟨by omega, by omega⟩ ⟨by omega, by omega⟩ dX6_wouldEat_125 (by decide) (fun hc125 => ?_) (fun hc125 => ?_)
    · skip
      refine n_aload_n O dX6_wouldEat_133 rfl ?_
      refine m_get_ss O hM fl_X6_22 dX6_wouldEat_134 ?_
      refine r_bipush O (by decide +kernel) dX6_wouldEat_137 ?_
      refine n_iload_n O dX6_wouldEat_139 rfl ?_
      refine r_iadd O dX6_wouldEat_140 ?_
      refine m_ld_ss O hM (by omega) (by omega) dX6_wouldEat_141 ?_
      refine n_istore O dX6_wouldEat_142 (by decide) rfl ?_
      refine n_iload O dX6_wouldEat_144 rfl ?_
      refine r_if_ne (tgt := 153) O ⟨by omega, by omega⟩ dX6_wouldEat_146 (by decide) (fun hc146 => ?_) (fun hc146 => ?_)
      · skip
        refine n_iload O dX6_wouldEat_153 rfl ?_
        refine n_aload_n O dX6_wouldEat_155 rfl ?_
        refine m_get_ss O hM fl_X6_22 dX6_wouldEat_156 ?_
        refine r_bipush O (by decide +kernel) dX6_wouldEat_159 ?_
        refine m_ld_ss O hM (by omega) (by omega) dX6_wouldEat_161 ?_
        refine r_icmp_ge (tgt := 170) O ⟨by omega, by omega⟩ ⟨by omega, by omega⟩ dX6_wouldEat_162 (by decide) (fun hc162 => ?_) (fun hc162 => ?_)
        · skip
          refine n_aload_n O dX6_wouldEat_170 rfl ?_
          refine m_get_ss O hM fl_X6_22 dX6_wouldEat_171 ?_
          refine r_bipush O (by decide +kernel) dX6_wouldEat_174 ?_
          refine m_ld_ss O hM (by omega) (by omega) dX6_wouldEat_176 ?_
          exact hE _ _ _ _ dX6_wouldEat_177 rfl ⟨by unfold shareV spoonV; first | (rw [if_pos (by omega)]; omega) | (rw [if_neg (by omega), ← hq]; omega), rfl⟩
        · skip
          refine n_iload O dX6_wouldEat_165 rfl ?_
          refine r_goto (tgt := 177) O dX6_wouldEat_167 (by decide) ?_
          exact hE _ _ _ _ dX6_wouldEat_177 rfl ⟨by unfold shareV spoonV; first | (rw [if_pos (by omega)]; omega) | (rw [if_neg (by omega), ← hq]; omega), rfl⟩
      · skip
        refine r_iconst O dX6_wouldEat_149 ?_
        refine r_goto (tgt := 177) O dX6_wouldEat_150 (by decide) ?_
        exact hE _ _ _ _ dX6_wouldEat_177 rfl ⟨by unfold shareV spoonV; first | (rw [if_pos (by omega)]; omega) | (rw [if_neg (by omega), ← hq]; omega), rfl⟩
    · skip
      refine n_iload O dX6_wouldEat_128 rfl ?_
      refine r_goto (tgt := 142) O dX6_wouldEat_130 (by decide) ?_
      refine n_istore O dX6_wouldEat_142 (by decide) rfl ?_
      refine n_iload O dX6_wouldEat_144 rfl ?_
      refine r_if_ne (tgt := 153) O ⟨by omega, by omega⟩ dX6_wouldEat_146 (by decide) (fun hc146 => ?_) (fun hc146 => ?_)
      · skip
        refine n_iload O dX6_wouldEat_153 rfl ?_
        refine n_aload_n O dX6_wouldEat_155 rfl ?_
        refine m_get_ss O hM fl_X6_22 dX6_wouldEat_156 ?_
        refine r_bipush O (by decide +kernel) dX6_wouldEat_159 ?_
        refine m_ld_ss O hM (by omega) (by omega) dX6_wouldEat_161 ?_
        refine r_icmp_ge (tgt := 170) O ⟨by omega, by omega⟩ ⟨by omega, by omega⟩ dX6_wouldEat_162 (by decide) (fun hc162 => ?_) (fun hc162 => ?_)
        · skip
          refine n_aload_n O dX6_wouldEat_170 rfl ?_
          refine m_get_ss O hM fl_X6_22 dX6_wouldEat_171 ?_
          refine r_bipush O (by decide +kernel) dX6_wouldEat_174 ?_
          refine m_ld_ss O hM (by omega) (by omega) dX6_wouldEat_176 ?_
          exact hE _ _ _ _ dX6_wouldEat_177 rfl ⟨by unfold shareV spoonV; first | (rw [if_pos (by omega)]; omega) | (rw [if_neg (by omega), ← hq]; omega), rfl⟩
        · skip
          refine n_iload O dX6_wouldEat_165 rfl ?_
          refine r_goto (tgt := 177) O dX6_wouldEat_167 (by decide) ?_
          exact hE _ _ _ _ dX6_wouldEat_177 rfl ⟨by unfold shareV spoonV; first | (rw [if_pos (by omega)]; omega) | (rw [if_neg (by omega), ← hq]; omega), rfl⟩
      · skip
        refine r_iconst O dX6_wouldEat_149 ?_
        refine r_goto (tgt := 177) O dX6_wouldEat_150 (by decide) ?_
        exact hE _ _ _ _ dX6_wouldEat_177 rfl ⟨by unfold shareV spoonV; first | (rw [if_pos (by omega)]; omega) | (rw [if_neg (by omega), ← hq]; omega), rfl⟩
  have L73 : ∀ (b : Int), ((b = 1 ∧ ¬ (qbe v i < qsa v ∨ hotV (qkd v i) < qhe v)) ∨ (b = 0 ∧ (qbe v i < qsa v ∨ hotV (qkd v i) < qhe v))) → G K X 7 73 [(0, .ref (kad K 0)), (1, .int (iI i)), (2, .int (iI (ss i))), (3, .int (iI (ss 29)))] [.int (iI b)] (layM K tx ty td dr bg ss pa kn im kp ns nd ap la hh tt) := by
    intro b hinv
    obtain hb := hinv
    refine n_istore O dX6_wouldEat_73 (by decide) rfl ?_
    refine n_iload_n O dX6_wouldEat_75 rfl ?_
    refine r_iconst O dX6_wouldEat_76 ?_
    refine r_icmp_ne (tgt := 94) O ⟨by omega, by omega⟩ ⟨by omega, by omega⟩ dX6_wouldEat_77 (by decide) (fun hc77 => ?_) (fun hc77 => ?_)
    · skip
      refine n_iload_n O dX6_wouldEat_94 rfl ?_
      refine r_iconst O dX6_wouldEat_95 ?_
      refine r_icmp_ne (tgt := 103) O ⟨by omega, by omega⟩ ⟨by omega, by omega⟩ dX6_wouldEat_96 (by decide) (fun hc96 => ?_) (fun hc96 => ?_)
      · skip
        refine n_aload_n O dX6_wouldEat_103 rfl ?_
        refine m_get_ss O hM fl_X6_22 dX6_wouldEat_104 ?_
        refine r_bipush O (by decide +kernel) dX6_wouldEat_107 ?_
        refine n_iload_n O dX6_wouldEat_109 rfl ?_
        refine r_iadd O dX6_wouldEat_110 ?_
        refine m_ld_ss O hM (by omega) (by omega) dX6_wouldEat_111 ?_
        exact G_chk (L112 _ _ ⟨by omega, by split <;> (try split) <;> omega, by omega, by omega⟩) (zsc rfl (zsc rfl (zsc rfl (zsc rfl (zsc rfl zsn)))))
      · skip
        refine r_iconst O dX6_wouldEat_99 ?_
        refine r_goto (tgt := 112) O dX6_wouldEat_100 (by decide) ?_
        exact G_chk (L112 _ _ ⟨by omega, by split <;> (try split) <;> omega, by omega, by omega⟩) (zsc rfl (zsc rfl (zsc rfl (zsc rfl (zsc rfl zsn)))))
    · skip
      refine r_iconst O dX6_wouldEat_80 ?_
      refine n_aload_n O dX6_wouldEat_81 rfl ?_
      refine m_get_ss O hM fl_X6_22 dX6_wouldEat_82 ?_
      refine r_bipush O (by decide +kernel) dX6_wouldEat_85 ?_
      refine n_iload_n O dX6_wouldEat_87 rfl ?_
      refine r_iadd O dX6_wouldEat_88 ?_
      refine m_ld_ss O hM (by omega) (by omega) dX6_wouldEat_89 ?_
      refine r_imul O dX6_wouldEat_90 ?_
      refine r_goto (tgt := 112) O dX6_wouldEat_91 (by decide) ?_
      exact G_chk (L112 _ _ ⟨by omega, by split <;> (try split) <;> omega, by omega, by omega⟩) (zsc rfl (zsc rfl (zsc rfl (zsc rfl (zsc rfl zsn)))))
  refine n_aload_n O dX6_wouldEat_0 rfl ?_
  refine m_get_ss O hM fl_X6_22 dX6_wouldEat_1 ?_
  refine n_iload_n O dX6_wouldEat_4 rfl ?_
  refine m_ld_ss O hM (by omega) (by omega) dX6_wouldEat_5 ?_
  refine n_istore_n O dX6_wouldEat_6 (by decide) rfl ?_
  refine n_aload_n O dX6_wouldEat_7 rfl ?_
  refine m_get_ss O hM fl_X6_22 dX6_wouldEat_8 ?_
  refine r_bipush O (by decide +kernel) dX6_wouldEat_11 ?_
  refine m_ld_ss O hM (by omega) (by omega) dX6_wouldEat_13 ?_
  refine n_istore_n O dX6_wouldEat_14 (by decide) rfl ?_
  refine n_aload_n O dX6_wouldEat_15 rfl ?_
  refine m_get_ss O hM fl_X6_22 dX6_wouldEat_16 ?_
  refine r_bipush O (by decide +kernel) dX6_wouldEat_19 ?_
  refine m_ld_ss O hM (by omega) (by omega) dX6_wouldEat_21 ?_
  refine n_aload_n O dX6_wouldEat_22 rfl ?_
  refine m_get_td O hM fl_X6_13 dX6_wouldEat_23 ?_
  refine r_iconst O dX6_wouldEat_26 ?_
  refine n_iload_n O dX6_wouldEat_27 rfl ?_
  refine r_iadd O dX6_wouldEat_28 ?_
  refine m_ld_td O hM (by omega) (by omega) dX6_wouldEat_29 ?_
  refine r_icmp_gt (tgt := 72) O ⟨by omega, by omega⟩ ⟨by omega, by omega⟩ dX6_wouldEat_30 (by decide) (fun hc30 => ?_) (fun hc30 => ?_)
  · skip
    refine r_iconst O dX6_wouldEat_72 ?_
    exact G_chk (L73 _ (by unfold hotV; split <;> (try split) <;> (try split) <;> omega)) (zsc rfl (zsc rfl (zsc rfl (zsc rfl zsn))))
  · skip
    refine n_iload_n O dX6_wouldEat_33 rfl ?_
    refine n_iload_n O dX6_wouldEat_34 rfl ?_
    refine r_iconst O dX6_wouldEat_35 ?_
    refine r_icmp_ne (tgt := 43) O ⟨by omega, by omega⟩ ⟨by omega, by omega⟩ dX6_wouldEat_36 (by decide) (fun hc36 => ?_) (fun hc36 => ?_)
    · skip
      refine n_iload_n O dX6_wouldEat_43 rfl ?_
      refine r_iconst O dX6_wouldEat_44 ?_
      refine r_icmp_ne (tgt := 53) O ⟨by omega, by omega⟩ ⟨by omega, by omega⟩ dX6_wouldEat_45 (by decide) (fun hc45 => ?_) (fun hc45 => ?_)
      · skip
        refine n_iload_n O dX6_wouldEat_53 rfl ?_
        refine r_iconst O dX6_wouldEat_54 ?_
        refine r_icmp_ne (tgt := 63) O ⟨by omega, by omega⟩ ⟨by omega, by omega⟩ dX6_wouldEat_55 (by decide) (fun hc55 => ?_) (fun hc55 => ?_)
        · skip
          refine r_bipush O (by decide +kernel) dX6_wouldEat_63 ?_
          refine r_icmp_gt (tgt := 72) O ⟨by omega, by omega⟩ ⟨by omega, by omega⟩ dX6_wouldEat_65 (by decide) (fun hc65 => ?_) (fun hc65 => ?_)
          · skip
            refine r_iconst O dX6_wouldEat_72 ?_
            exact G_chk (L73 _ (by unfold hotV; split <;> (try split) <;> (try split) <;> omega)) (zsc rfl (zsc rfl (zsc rfl (zsc rfl zsn))))
          · skip
            refine r_iconst O dX6_wouldEat_68 ?_
            refine r_goto (tgt := 73) O dX6_wouldEat_69 (by decide) ?_
            exact G_chk (L73 _ (by unfold hotV; split <;> (try split) <;> (try split) <;> omega)) (zsc rfl (zsc rfl (zsc rfl (zsc rfl zsn))))
        · skip
          refine r_bipush O (by decide +kernel) dX6_wouldEat_58 ?_
          refine r_goto (tgt := 65) O dX6_wouldEat_60 (by decide) ?_
          refine r_icmp_gt (tgt := 72) O ⟨by omega, by omega⟩ ⟨by omega, by omega⟩ dX6_wouldEat_65 (by decide) (fun hc65 => ?_) (fun hc65 => ?_)
          · skip
            refine r_iconst O dX6_wouldEat_72 ?_
            exact G_chk (L73 _ (by unfold hotV; split <;> (try split) <;> (try split) <;> omega)) (zsc rfl (zsc rfl (zsc rfl (zsc rfl zsn))))
          · skip
            refine r_iconst O dX6_wouldEat_68 ?_
            refine r_goto (tgt := 73) O dX6_wouldEat_69 (by decide) ?_
            exact G_chk (L73 _ (by unfold hotV; split <;> (try split) <;> (try split) <;> omega)) (zsc rfl (zsc rfl (zsc rfl (zsc rfl zsn))))
      · skip
        refine r_bipush O (by decide +kernel) dX6_wouldEat_48 ?_
        refine r_goto (tgt := 65) O dX6_wouldEat_50 (by decide) ?_
        refine r_icmp_gt (tgt := 72) O ⟨by omega, by omega⟩ ⟨by omega, by omega⟩ dX6_wouldEat_65 (by decide) (fun hc65 => ?_) (fun hc65 => ?_)
        · skip
          refine r_iconst O dX6_wouldEat_72 ?_
          exact G_chk (L73 _ (by unfold hotV; split <;> (try split) <;> (try split) <;> omega)) (zsc rfl (zsc rfl (zsc rfl (zsc rfl zsn))))
        · skip
          refine r_iconst O dX6_wouldEat_68 ?_
          refine r_goto (tgt := 73) O dX6_wouldEat_69 (by decide) ?_
          exact G_chk (L73 _ (by unfold hotV; split <;> (try split) <;> (try split) <;> omega)) (zsc rfl (zsc rfl (zsc rfl (zsc rfl zsn))))
    · skip
      refine r_iconst O dX6_wouldEat_39 ?_
      refine r_goto (tgt := 65) O dX6_wouldEat_40 (by decide) ?_
      refine r_icmp_gt (tgt := 72) O ⟨by omega, by omega⟩ ⟨by omega, by omega⟩ dX6_wouldEat_65 (by decide) (fun hc65 => ?_) (fun hc65 => ?_)
      · skip
        refine r_iconst O dX6_wouldEat_72 ?_
        exact G_chk (L73 _ (by unfold hotV; split <;> (try split) <;> (try split) <;> omega)) (zsc rfl (zsc rfl (zsc rfl (zsc rfl zsn))))
      · skip
        refine r_iconst O dX6_wouldEat_68 ?_
        refine r_goto (tgt := 73) O dX6_wouldEat_69 (by decide) ?_
        exact G_chk (L73 _ (by unfold hotV; split <;> (try split) <;> (try split) <;> omega)) (zsc rfl (zsc rfl (zsc rfl (zsc rfl zsn))))
set_option maxHeartbeats 4000000 in
theorem C_X6_cools {K : zK} (hI : zInj K) (hM : kN K = 11) (tx : Int → Int) (ty : Int) (td dr bg ss pa : Int → Int) (kn : Int) (im : Int → Int) (kp : Int) (ns : Int → Int) (nd ap la : Int) (hh tt : Int → Int) (v : SV) (hv : okV v) (hr : mR td ss v)  : zCv K yX6_cools cX6_cools 1 0 [.ref (kad K 0)] (layM K tx ty td dr bg ss pa kn im kp ns nd ap la hh tt) (fun u => ∃ s2 : Int → Int, mR td s2 (waitV v) ∧ u = (layM K tx ty td dr bg s2 pa kn im kp ns nd ap la hh tt)) := by
  obtain ⟨hn7, ham, hhe, hsa, hro, hfa, hm⟩ := id hv
  obtain ⟨r1, r2, r3, r4, r5, r6, rm⟩ := id hr
  refine zCv_in hI (by decide +kernel) (Nat.le_of_ble_eq_true rfl) (fun X O hE => ?_)
  refine n_aload_n O dX6_cools_0 rfl ?_
  refine m_get_ss O hM fl_X6_22 dX6_cools_1 ?_
  refine r_bipush O (by decide +kernel) dX6_cools_4 ?_
  refine n_aload_n O dX6_cools_6 rfl ?_
  refine m_get_ss O hM fl_X6_22 dX6_cools_7 ?_
  refine r_bipush O (by decide +kernel) dX6_cools_10 ?_
  refine m_ld_ss O hM (by omega) (by omega) dX6_cools_12 ?_
  refine r_if_le (tgt := 28) O ⟨by omega, by omega⟩ dX6_cools_13 (by decide) (fun hc13 => ?_) (fun hc13 => ?_)
  · skip
    refine r_iconst O dX6_cools_28 ?_
    refine m_st_ss O hM (by omega) (by omega) dX6_cools_29 ?_
    exact hE _ _ _ dX6_cools_30 ⟨_, ⟨r1, by rw [uI_n _ _ (by omega)]; exact r2, by rw [uI_s]; show _ = max (qhe v - 1) 0; omega, by rw [uI_n _ _ (by omega)]; exact r4, r5, r6, fun y y0 y1 => by have y2 : y < qn v := y1; rw [uI_n _ _ (by omega), uI_n _ _ (by omega), uI_n _ _ (by omega), uI_n _ _ (by omega)]; exact rm y y0 y2⟩, rfl⟩
  · skip
    refine n_aload_n O dX6_cools_16 rfl ?_
    refine m_get_ss O hM fl_X6_22 dX6_cools_17 ?_
    refine r_bipush O (by decide +kernel) dX6_cools_20 ?_
    refine m_ld_ss O hM (by omega) (by omega) dX6_cools_22 ?_
    refine r_iconst O dX6_cools_23 ?_
    refine r_isub O dX6_cools_24 ?_
    refine r_goto (tgt := 29) O dX6_cools_25 (by decide) ?_
    refine m_st_ss O hM (by omega) (by omega) dX6_cools_29 ?_
    exact hE _ _ _ dX6_cools_30 ⟨_, ⟨r1, by rw [uI_n _ _ (by omega)]; exact r2, by rw [uI_s]; show _ = max (qhe v - 1) 0; omega, by rw [uI_n _ _ (by omega)]; exact r4, r5, r6, fun y y0 y1 => by have y2 : y < qn v := y1; rw [uI_n _ _ (by omega), uI_n _ _ (by omega), uI_n _ _ (by omega), uI_n _ _ (by omega)]; exact rm y y0 y2⟩, rfl⟩
set_option maxHeartbeats 4000000 in
theorem C_X6_eats {K : zK} (hI : zInj K) (hM : kN K = 11) (tx : Int → Int) (ty : Int) (td dr bg ss pa : Int → Int) (kn : Int) (im : Int → Int) (kp : Int) (ns : Int → Int) (nd ap la : Int) (hh tt : Int → Int) (v : SV) (hv : okV v) (hr : mR td ss v) (s : Nat) (hs : s < 128) : zCi K yX6_eats cX6_eats 5 (some .int) 1 [.ref (kad K 0), .int (iI (s : Int))] (layM K tx ty td dr bg ss pa kn im kp ns nd ap la hh tt) (fun z u => z = qam v - qam (roundQ v s) ∧ ∃ s2 : Int → Int, mR td s2 (roundQ v s) ∧ u = (layM K tx ty td dr bg s2 pa kn im kp ns nd ap ((eatQ v s (qn v).toNat).2.2) hh tt)) := by
  obtain ⟨hn7, ham, hhe, hsa, hro, hfa, hm⟩ := id hv
  obtain ⟨r1, r2, r3, r4, r5, r6, rm⟩ := id hr
  refine zCi_in hI (by decide +kernel) (Nat.le_of_ble_eq_true rfl) (fun X O hE => ?_)
  refine r_iconst O dX6_eats_0 ?_
  refine n_istore_n O dX6_eats_1 (by decide) rfl ?_
  refine n_aload_n O dX6_eats_2 rfl ?_
  refine r_bipush O (by decide +kernel) dX6_eats_3 ?_
  refine m_put_la O hM fl_X6_95 dX6_eats_5 ?_
  refine r_iconst O dX6_eats_8 ?_
  refine n_istore_n O dX6_eats_9 (by decide) rfl ?_
  have L10 : ∀ (zk : Nat) (k : Nat) (s1 : Int → Int) (lb sm : Int), ((k : Int) ≤ qn v ∧ mR td s1 (eatQ v s k).1 ∧ lb = (eatQ v s k).2.2 ∧ sm = (eatQ v s k).2.1) → 7 - k = zk → G K X 5 10 [(0, .ref (kad K 0)), (1, .int (iI (s : Int))), (2, .int (iI sm)), (3, .int (iI (k : Int)))] [] (layM K tx ty td dr bg s1 pa kn im kp ns nd ap lb hh tt) := by
    intro zk
    induction zk using Nat.strongRecOn with
    | ind zk ih10 =>
      intro k s1 lb sm hinv hk
      obtain ⟨hk, hq, hlb, hsm⟩ := hinv
      have hv1 : okV (eatQ v s k).1 := okV_eatQ hv s k hk
      have hqn : qn (eatQ v s k).1 = qn v := eatQ_n v s k
      have hbit : (s >>> k % 2 : Nat) = bitI s k := rfl
      have hb01 := bitI_01 s k
      obtain ⟨p1, p2, p3, p4, p5, p6, pm⟩ := id hq
      have ham1 := hv1.2.1
      refine n_iload_n O dX6_eats_10 rfl ?_
      refine n_aload_n O dX6_eats_11 rfl ?_
      refine m_get_td O hM fl_X6_13 dX6_eats_12 ?_
      refine r_iconst O dX6_eats_15 ?_
      refine m_ld_td O hM (by omega) (by omega) dX6_eats_16 ?_
      refine r_icmp_ge (tgt := 118) O ⟨by omega, by omega⟩ ⟨by omega, by omega⟩ dX6_eats_17 (by decide) (fun hc17 => ?_) (fun hc17 => ?_)
      · skip
        refine n_aload_n O dX6_eats_118 rfl ?_
        refine r_callV0v O (C_X6_cools hI hM _ _ _ _ _ _ _ _ _ _ _ _ _ _ _ _ (eatQ v s k).1 hv1 hq) q_X6_98 (by rw [hM]; decide) (fs := _) rfl rfl rfl (by decide) (by decide) (Nat.le_of_ble_eq_true rfl) dX6_eats_119 (fun zu119 hz119 => ?_)
        obtain ⟨s2, hr2, rfl⟩ := hz119
        refine n_iload_n O dX6_eats_122 rfl ?_
        exact hE _ _ _ _ dX6_eats_123 rfl (by have e : (qn v).toNat = k := (by omega); exact ⟨by show _ = qam v - qam (waitV (eatQ v s (qn v).toNat).1); rw [e, hsm]; exact sum_eatQ v s k, s2, by show mR td s2 (waitV (eatQ v s (qn v).toNat).1); rw [e]; exact hr2, by rw [hlb, e]⟩)
      · skip
        refine n_iload_n O dX6_eats_20 rfl ?_
        refine n_iload_n O dX6_eats_21 rfl ?_
        refine r_ishr O (bit_shr hs (by omega)) dX6_eats_22 ?_
        refine r_iconst O dX6_eats_23 ?_
        refine r_iand O (bit_and1 (bit_d6 s hs k (by omega))) dX6_eats_24 ?_
        refine r_iconst O dX6_eats_25 ?_
        refine r_icmp_ne (tgt := 37) O ⟨by omega, by omega⟩ ⟨by omega, by omega⟩ dX6_eats_26 (by decide) (fun hc26 => ?_) (fun hc26 => ?_)
        · skip
          refine r_iconst O dX6_eats_37 ?_
          have L38 : ∀ (zk : Nat) (m : Int), (m = (if bitI s k = 1 then shareV (eatQ v s k).1 (k : Int) else 0) ∧ 0 ≤ m ∧ m ≤ qam (eatQ v s k).1) → 0 = zk → G K X 5 38 [(0, .ref (kad K 0)), (1, .int (iI (s : Int))), (2, .int (iI sm)), (3, .int (iI (k : Int)))] [.int (iI m)] (layM K tx ty td dr bg s1 pa kn im kp ns nd ap lb hh tt) := by
            intro zk
            induction zk using Nat.strongRecOn with
            | ind zk ih38 =>
              intro m hinv hk
              obtain ⟨hm1, hm2, hm3⟩ := hinv
              refine n_istore O dX6_eats_38 (by decide) rfl ?_
              refine n_aload_n O dX6_eats_40 rfl ?_
              refine m_get_ss O hM fl_X6_22 dX6_eats_41 ?_
              refine r_bipush O (by decide +kernel) dX6_eats_44 ?_
              refine n_iload_n O dX6_eats_46 rfl ?_
              refine r_iadd O dX6_eats_47 ?_
              refine r_dup2 O rfl rfl dX6_eats_48 ?_
              refine m_ld_ss O hM (by omega) (by omega) dX6_eats_49 ?_
              refine n_iload O dX6_eats_50 rfl ?_
              refine r_isub O dX6_eats_52 ?_
              refine m_st_ss O hM (by omega) (by omega) dX6_eats_53 ?_
              refine n_aload_n O dX6_eats_54 rfl ?_
              refine m_get_ss O hM fl_X6_22 dX6_eats_55 ?_
              refine r_bipush O (by decide +kernel) dX6_eats_58 ?_
              refine n_iload_n O dX6_eats_60 rfl ?_
              refine r_iadd O dX6_eats_61 ?_
              refine r_dup2 O rfl rfl dX6_eats_62 ?_
              refine m_ld_ss O hM (by omega) (by omega) dX6_eats_63 ?_
              refine n_iload O dX6_eats_64 rfl ?_
              refine r_iadd O dX6_eats_66 ?_
              refine m_st_ss O hM (by omega) (by omega) dX6_eats_67 ?_
              refine n_aload_n O dX6_eats_68 rfl ?_
              refine m_get_ss O hM fl_X6_22 dX6_eats_69 ?_
              refine r_bipush O (by decide +kernel) dX6_eats_72 ?_
              refine r_dup2 O rfl rfl dX6_eats_74 ?_
              refine m_ld_ss O hM (by omega) (by omega) dX6_eats_75 ?_
              refine n_iload O dX6_eats_76 rfl ?_
              refine r_isub O dX6_eats_78 ?_
              refine m_st_ss O hM (by omega) (by omega) dX6_eats_79 ?_
              refine n_iload_n O dX6_eats_80 rfl ?_
              refine n_iload O dX6_eats_81 rfl ?_
              refine r_iadd O dX6_eats_83 ?_
              refine n_istore_n O dX6_eats_84 (by decide) rfl ?_
              refine n_aload_n O dX6_eats_85 rfl ?_
              refine n_iload O dX6_eats_86 rfl ?_
              refine r_if_le (tgt := 105) O ⟨by omega, by omega⟩ dX6_eats_88 (by decide) (fun hc88 => ?_) (fun hc88 => ?_)
              · skip
                refine n_aload_n O dX6_eats_105 rfl ?_
                refine m_get_la O hM fl_X6_95 dX6_eats_106 ?_
                refine m_put_la O hM fl_X6_95 dX6_eats_109 ?_
                refine n_iinc O dX6_eats_112 (by decide) rfl rfl ?_
                refine r_goto (tgt := 10) O dX6_eats_115 (by decide) ?_
                exact G_chk (ih10 _ (by omega) (k + 1) _ _ _ ⟨by omega, by show mR td _ (eatQS s (eatQ v s k) k).1; unfold eatQS; simp only [← hm1]; exact mR_eat hq (by omega) (by omega) (by omega), by show _ = (eatQS s (eatQ v s k) k).2.2; unfold eatQS; simp only [← hm1]; first | (rw [if_pos (by omega)]; done) | (rw [if_neg (by omega)]; exact hlb), by show _ = (eatQS s (eatQ v s k) k).2.1; unfold eatQS; simp only [← hm1]; rw [hsm]⟩ rfl) (zsc rfl (zsc rfl (zsc rfl (zsc rfl zsn))))
              · skip
                refine n_aload_n O dX6_eats_91 rfl ?_
                refine m_get_ss O hM fl_X6_22 dX6_eats_92 ?_
                refine r_bipush O (by decide +kernel) dX6_eats_95 ?_
                refine m_ld_ss O hM (by omega) (by omega) dX6_eats_97 ?_
                refine G_st (st' := .int (iI (qam (eatQ v s k).1 - m)) :: _) (by rw [uI_s, uI_n _ _ (by omega), uI_n _ _ (by omega), p2]) ?_
                refine r_if_ne (tgt := 105) O ⟨by omega, by omega⟩ dX6_eats_98 (by decide) (fun hc98 => ?_) (fun hc98 => ?_)
                · skip
                  refine n_aload_n O dX6_eats_105 rfl ?_
                  refine m_get_la O hM fl_X6_95 dX6_eats_106 ?_
                  refine m_put_la O hM fl_X6_95 dX6_eats_109 ?_
                  refine n_iinc O dX6_eats_112 (by decide) rfl rfl ?_
                  refine r_goto (tgt := 10) O dX6_eats_115 (by decide) ?_
                  exact G_chk (ih10 _ (by omega) (k + 1) _ _ _ ⟨by omega, by show mR td _ (eatQS s (eatQ v s k) k).1; unfold eatQS; simp only [← hm1]; exact mR_eat hq (by omega) (by omega) (by omega), by show _ = (eatQS s (eatQ v s k) k).2.2; unfold eatQS; simp only [← hm1]; first | (rw [if_pos (by omega)]; done) | (rw [if_neg (by omega)]; exact hlb), by show _ = (eatQS s (eatQ v s k) k).2.1; unfold eatQS; simp only [← hm1]; rw [hsm]⟩ rfl) (zsc rfl (zsc rfl (zsc rfl (zsc rfl zsn))))
                · skip
                  refine n_iload_n O dX6_eats_101 rfl ?_
                  refine r_goto (tgt := 109) O dX6_eats_102 (by decide) ?_
                  refine m_put_la O hM fl_X6_95 dX6_eats_109 ?_
                  refine n_iinc O dX6_eats_112 (by decide) rfl rfl ?_
                  refine r_goto (tgt := 10) O dX6_eats_115 (by decide) ?_
                  exact G_chk (ih10 _ (by omega) (k + 1) _ _ _ ⟨by omega, by show mR td _ (eatQS s (eatQ v s k) k).1; unfold eatQS; simp only [← hm1]; exact mR_eat hq (by omega) (by omega) (by omega), by show _ = (eatQS s (eatQ v s k) k).2.2; unfold eatQS; simp only [← hm1]; first | (rw [if_pos (by omega)]; done) | (rw [if_neg (by omega)]; exact hlb), by show _ = (eatQS s (eatQ v s k) k).2.1; unfold eatQS; simp only [← hm1]; rw [hsm]⟩ rfl) (zsc rfl (zsc rfl (zsc rfl (zsc rfl zsn))))
          exact G_chk (L38 _ _ (by first | (rw [if_pos (by omega)]; omega) | (rw [if_neg (by omega)]; omega)) rfl) (zsc rfl (zsc rfl (zsc rfl (zsc rfl zsn))))
        · skip
          refine n_aload_n O dX6_eats_29 rfl ?_
          refine n_iload_n O dX6_eats_30 rfl ?_
          refine r_callV1i O (C_X6_wouldEat hI hM _ _ _ _ _ _ _ _ _ _ _ _ _ _ _ _ (eatQ v s k).1 hv1 hq (k : Int) (by omega) (by omega)) q_X6_92 (by rw [hM]; decide) (fs := _) rfl rfl rfl (by decide) (by decide) (Nat.le_of_ble_eq_true rfl) dX6_eats_31 (fun zz31 zu31 hz31 => ?_)
          obtain ⟨rfl, rfl⟩ := hz31
          have hsb := shareV_b hv1 (i := (k : Int)) (by omega) (by omega)
          refine r_goto (tgt := 38) O dX6_eats_34 (by decide) ?_
          have L38 : ∀ (zk : Nat) (m : Int), (m = (if bitI s k = 1 then shareV (eatQ v s k).1 (k : Int) else 0) ∧ 0 ≤ m ∧ m ≤ qam (eatQ v s k).1) → 0 = zk → G K X 5 38 [(0, .ref (kad K 0)), (1, .int (iI (s : Int))), (2, .int (iI sm)), (3, .int (iI (k : Int)))] [.int (iI m)] (layM K tx ty td dr bg s1 pa kn im kp ns nd ap lb hh tt) := by
            intro zk
            induction zk using Nat.strongRecOn with
            | ind zk ih38 =>
              intro m hinv hk
              obtain ⟨hm1, hm2, hm3⟩ := hinv
              refine n_istore O dX6_eats_38 (by decide) rfl ?_
              refine n_aload_n O dX6_eats_40 rfl ?_
              refine m_get_ss O hM fl_X6_22 dX6_eats_41 ?_
              refine r_bipush O (by decide +kernel) dX6_eats_44 ?_
              refine n_iload_n O dX6_eats_46 rfl ?_
              refine r_iadd O dX6_eats_47 ?_
              refine r_dup2 O rfl rfl dX6_eats_48 ?_
              refine m_ld_ss O hM (by omega) (by omega) dX6_eats_49 ?_
              refine n_iload O dX6_eats_50 rfl ?_
              refine r_isub O dX6_eats_52 ?_
              refine m_st_ss O hM (by omega) (by omega) dX6_eats_53 ?_
              refine n_aload_n O dX6_eats_54 rfl ?_
              refine m_get_ss O hM fl_X6_22 dX6_eats_55 ?_
              refine r_bipush O (by decide +kernel) dX6_eats_58 ?_
              refine n_iload_n O dX6_eats_60 rfl ?_
              refine r_iadd O dX6_eats_61 ?_
              refine r_dup2 O rfl rfl dX6_eats_62 ?_
              refine m_ld_ss O hM (by omega) (by omega) dX6_eats_63 ?_
              refine n_iload O dX6_eats_64 rfl ?_
              refine r_iadd O dX6_eats_66 ?_
              refine m_st_ss O hM (by omega) (by omega) dX6_eats_67 ?_
              refine n_aload_n O dX6_eats_68 rfl ?_
              refine m_get_ss O hM fl_X6_22 dX6_eats_69 ?_
              refine r_bipush O (by decide +kernel) dX6_eats_72 ?_
              refine r_dup2 O rfl rfl dX6_eats_74 ?_
              refine m_ld_ss O hM (by omega) (by omega) dX6_eats_75 ?_
              refine n_iload O dX6_eats_76 rfl ?_
              refine r_isub O dX6_eats_78 ?_
              refine m_st_ss O hM (by omega) (by omega) dX6_eats_79 ?_
              refine n_iload_n O dX6_eats_80 rfl ?_
              refine n_iload O dX6_eats_81 rfl ?_
              refine r_iadd O dX6_eats_83 ?_
              refine n_istore_n O dX6_eats_84 (by decide) rfl ?_
              refine n_aload_n O dX6_eats_85 rfl ?_
              refine n_iload O dX6_eats_86 rfl ?_
              refine r_if_le (tgt := 105) O ⟨by omega, by omega⟩ dX6_eats_88 (by decide) (fun hc88 => ?_) (fun hc88 => ?_)
              · skip
                refine n_aload_n O dX6_eats_105 rfl ?_
                refine m_get_la O hM fl_X6_95 dX6_eats_106 ?_
                refine m_put_la O hM fl_X6_95 dX6_eats_109 ?_
                refine n_iinc O dX6_eats_112 (by decide) rfl rfl ?_
                refine r_goto (tgt := 10) O dX6_eats_115 (by decide) ?_
                exact G_chk (ih10 _ (by omega) (k + 1) _ _ _ ⟨by omega, by show mR td _ (eatQS s (eatQ v s k) k).1; unfold eatQS; simp only [← hm1]; exact mR_eat hq (by omega) (by omega) (by omega), by show _ = (eatQS s (eatQ v s k) k).2.2; unfold eatQS; simp only [← hm1]; first | (rw [if_pos (by omega)]; done) | (rw [if_neg (by omega)]; exact hlb), by show _ = (eatQS s (eatQ v s k) k).2.1; unfold eatQS; simp only [← hm1]; rw [hsm]⟩ rfl) (zsc rfl (zsc rfl (zsc rfl (zsc rfl zsn))))
              · skip
                refine n_aload_n O dX6_eats_91 rfl ?_
                refine m_get_ss O hM fl_X6_22 dX6_eats_92 ?_
                refine r_bipush O (by decide +kernel) dX6_eats_95 ?_
                refine m_ld_ss O hM (by omega) (by omega) dX6_eats_97 ?_
                refine G_st (st' := .int (iI (qam (eatQ v s k).1 - m)) :: _) (by rw [uI_s, uI_n _ _ (by omega), uI_n _ _ (by omega), p2]) ?_
                refine r_if_ne (tgt := 105) O ⟨by omega, by omega⟩ dX6_eats_98 (by decide) (fun hc98 => ?_) (fun hc98 => ?_)
                · skip
                  refine n_aload_n O dX6_eats_105 rfl ?_
                  refine m_get_la O hM fl_X6_95 dX6_eats_106 ?_
                  refine m_put_la O hM fl_X6_95 dX6_eats_109 ?_
                  refine n_iinc O dX6_eats_112 (by decide) rfl rfl ?_
                  refine r_goto (tgt := 10) O dX6_eats_115 (by decide) ?_
                  exact G_chk (ih10 _ (by omega) (k + 1) _ _ _ ⟨by omega, by show mR td _ (eatQS s (eatQ v s k) k).1; unfold eatQS; simp only [← hm1]; exact mR_eat hq (by omega) (by omega) (by omega), by show _ = (eatQS s (eatQ v s k) k).2.2; unfold eatQS; simp only [← hm1]; first | (rw [if_pos (by omega)]; done) | (rw [if_neg (by omega)]; exact hlb), by show _ = (eatQS s (eatQ v s k) k).2.1; unfold eatQS; simp only [← hm1]; rw [hsm]⟩ rfl) (zsc rfl (zsc rfl (zsc rfl (zsc rfl zsn))))
                · skip
                  refine n_iload_n O dX6_eats_101 rfl ?_
                  refine r_goto (tgt := 109) O dX6_eats_102 (by decide) ?_
                  refine m_put_la O hM fl_X6_95 dX6_eats_109 ?_
                  refine n_iinc O dX6_eats_112 (by decide) rfl rfl ?_
                  refine r_goto (tgt := 10) O dX6_eats_115 (by decide) ?_
                  exact G_chk (ih10 _ (by omega) (k + 1) _ _ _ ⟨by omega, by show mR td _ (eatQS s (eatQ v s k) k).1; unfold eatQS; simp only [← hm1]; exact mR_eat hq (by omega) (by omega) (by omega), by show _ = (eatQS s (eatQ v s k) k).2.2; unfold eatQS; simp only [← hm1]; first | (rw [if_pos (by omega)]; done) | (rw [if_neg (by omega)]; exact hlb), by show _ = (eatQS s (eatQ v s k) k).2.1; unfold eatQS; simp only [← hm1]; rw [hsm]⟩ rfl) (zsc rfl (zsc rfl (zsc rfl (zsc rfl zsn))))
          exact G_chk (L38 _ _ (by first | (rw [if_pos (by omega)]; omega) | (rw [if_neg (by omega)]; omega)) rfl) (zsc rfl (zsc rfl (zsc rfl (zsc rfl zsn))))
  exact G_chk (L10 _ 0 ss (-4) 0 ⟨by omega, hr, rfl, rfl⟩ rfl) (zsc rfl (zsc rfl (zsc rfl (zsc rfl zsn))))
