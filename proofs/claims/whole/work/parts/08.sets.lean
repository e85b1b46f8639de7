set_option maxHeartbeats 4000000 in
theorem C_J6_bitCount_0f7a4 {K : zK} (hI : zInj K) (ct : zE) (s : Nat) (hs : s < 128) : zCi K yJ6_bitCount_0f7a4 cJ6_bitCount_0f7a4 1 (some .int) 0 [.int (iI (s : Int))] ct (fun z u => z = ((popN s : Nat) : Int) ∧ u = ct) := by
  refine zCi_in hI (by decide +kernel) (Nat.le_of_ble_eq_true rfl) (fun X O hE => ?_)
  refine n_iload_n O dJ6_bitCount_0f7a4_0 rfl ?_
  refine n_iload_n O dJ6_bitCount_0f7a4_1 rfl ?_
  refine r_iconst O dJ6_bitCount_0f7a4_2 ?_
  refine w_iushr O dJ6_bitCount_0f7a4_3 ?_
  refine r_ldcw O kc_J6_265 dJ6_bitCount_0f7a4_4 ?_
  refine w_iand O dJ6_bitCount_0f7a4_7 ?_
  refine w_isub O dJ6_bitCount_0f7a4_8 ?_
  refine n_istore_n O dJ6_bitCount_0f7a4_9 (by decide) rfl ?_
  refine n_iload_n O dJ6_bitCount_0f7a4_10 rfl ?_
  refine r_ldcw O kc_J6_266 dJ6_bitCount_0f7a4_11 ?_
  refine w_iand O dJ6_bitCount_0f7a4_14 ?_
  refine n_iload_n O dJ6_bitCount_0f7a4_15 rfl ?_
  refine r_iconst O dJ6_bitCount_0f7a4_16 ?_
  refine w_iushr O dJ6_bitCount_0f7a4_17 ?_
  refine r_ldcw O kc_J6_266 dJ6_bitCount_0f7a4_18 ?_
  refine w_iand O dJ6_bitCount_0f7a4_21 ?_
  refine w_iadd O dJ6_bitCount_0f7a4_22 ?_
  refine n_istore_n O dJ6_bitCount_0f7a4_23 (by decide) rfl ?_
  refine n_iload_n O dJ6_bitCount_0f7a4_24 rfl ?_
  refine n_iload_n O dJ6_bitCount_0f7a4_25 rfl ?_
  refine r_iconst O dJ6_bitCount_0f7a4_26 ?_
  refine w_iushr O dJ6_bitCount_0f7a4_27 ?_
  refine w_iadd O dJ6_bitCount_0f7a4_28 ?_
  refine r_ldcw O kc_J6_267 dJ6_bitCount_0f7a4_29 ?_
  refine w_iand O dJ6_bitCount_0f7a4_32 ?_
  refine n_istore_n O dJ6_bitCount_0f7a4_33 (by decide) rfl ?_
  refine n_iload_n O dJ6_bitCount_0f7a4_34 rfl ?_
  refine n_iload_n O dJ6_bitCount_0f7a4_35 rfl ?_
  refine r_bipush O (by decide +kernel) dJ6_bitCount_0f7a4_36 ?_
  refine w_iushr O dJ6_bitCount_0f7a4_38 ?_
  refine w_iadd O dJ6_bitCount_0f7a4_39 ?_
  refine n_istore_n O dJ6_bitCount_0f7a4_40 (by decide) rfl ?_
  refine n_iload_n O dJ6_bitCount_0f7a4_41 rfl ?_
  refine n_iload_n O dJ6_bitCount_0f7a4_42 rfl ?_
  refine r_bipush O (by decide +kernel) dJ6_bitCount_0f7a4_43 ?_
  refine w_iushr O dJ6_bitCount_0f7a4_45 ?_
  refine w_iadd O dJ6_bitCount_0f7a4_46 ?_
  refine n_istore_n O dJ6_bitCount_0f7a4_47 (by decide) rfl ?_
  refine n_iload_n O dJ6_bitCount_0f7a4_48 rfl ?_
  refine r_bipush O (by decide +kernel) dJ6_bitCount_0f7a4_49 ?_
  refine w_iand O dJ6_bitCount_0f7a4_51 ?_
  refine G_st (st' := [.int (iI ((popN s : Nat) : Int))]) ?_ (hE _ _ _ _ dJ6_bitCount_0f7a4_52 rfl ⟨rfl, rfl⟩)
  rw [← popE_ok hs]
  rfl
set_option maxHeartbeats 4000000 in
theorem C_X1_isIn {K : zK} (hI : zInj K) (ct : zE) (s i : Nat) (hs : s < 128) (hi : i < 7) : zCi K yX1_isIn cX1_isIn 2 (some .boolean) 0 [.int (iI (s : Int)), .int (iI (i : Int))] ct (fun z u => z = ((bitI s i : Nat) : Int) ∧ u = ct) := by
  have h6 := bit_d6 s hs i hi
  have hb := bitI_01 s i
  have he : (s >>> i % 2 : Nat) = bitI s i := rfl
  refine zCi_in hI (by decide +kernel) (Nat.le_of_ble_eq_true rfl) (fun X O hE => ?_)
  refine n_iload_n O dX1_isIn_0 rfl ?_
  refine n_iload_n O dX1_isIn_1 rfl ?_
  refine r_ishr O (bit_shr hs hi) dX1_isIn_2 ?_
  refine r_iconst O dX1_isIn_3 ?_
  refine r_iand O (bit_and1 h6) dX1_isIn_4 ?_
  refine r_iconst O dX1_isIn_5 ?_
  refine r_icmp_ne (tgt := 13) O ⟨by omega, by omega⟩ ⟨by omega, by omega⟩ dX1_isIn_6 (by decide) (fun hc6 => ?_) (fun hc6 => ?_)
  · skip
    refine r_iconst O dX1_isIn_13 ?_
    exact hE _ _ _ _ dX1_isIn_14 (nar01 (by omega)) ⟨by omega, rfl⟩
  · skip
    refine r_iconst O dX1_isIn_9 ?_
    refine r_goto (tgt := 14) O dX1_isIn_10 (by decide) ?_
    exact hE _ _ _ _ dX1_isIn_14 (nar01 (by omega)) ⟨by omega, rfl⟩
set_option maxHeartbeats 4000000 in
theorem C_X1_factorial {K : zK} (hI : zInj K) (ct : zE) (m : Nat) (hm : m < 8) : zCi K yX1_factorial cX1_factorial 3 (some .int) 0 [.int (iI (m : Int))] ct (fun z u => z = facN m ∧ u = ct) := by
  refine zCi_in hI (by decide +kernel) (Nat.le_of_ble_eq_true rfl) (fun X O hE => ?_)
  refine r_iconst O dX1_factorial_0 ?_
  refine n_istore_n O dX1_factorial_1 (by decide) rfl ?_
  refine r_iconst O dX1_factorial_2 ?_
  refine n_istore_n O dX1_factorial_3 (by decide) rfl ?_
  have L4 : ∀ (zk : Nat) (q : Nat), (1 ≤ q ∧ (q ≤ m ∨ q = 1)) → 8 - q = zk → G K X 3 4 [(0, .int (iI (m : Int))), (1, .int (iI (facN q))), (2, .int (iI ((q : Int) + 1)))] [] ct := by
    intro zk
    induction zk using Nat.strongRecOn with
    | ind zk ih4 =>
      intro q hinv hk
      obtain ⟨hq1, hq2⟩ := hinv
      refine n_iload_n O dX1_factorial_4 rfl ?_
      refine n_iload_n O dX1_factorial_5 rfl ?_
      refine r_icmp_gt (tgt := 19) O ⟨by omega, by omega⟩ ⟨by omega, by omega⟩ dX1_factorial_6 (by decide) (fun hc6 => ?_) (fun hc6 => ?_)
      · skip
        refine n_iload_n O dX1_factorial_19 rfl ?_
        exact hE _ _ _ _ dX1_factorial_20 rfl ⟨(facN_e hq1 hq2 (by omega)).symm, rfl⟩
      · skip
        refine n_iload_n O dX1_factorial_9 rfl ?_
        refine n_iload_n O dX1_factorial_10 rfl ?_
        refine r_imul O dX1_factorial_11 ?_
        refine n_istore_n O dX1_factorial_12 (by decide) rfl ?_
        refine n_iinc O dX1_factorial_13 (by decide) rfl rfl ?_
        refine r_goto (tgt := 4) O dX1_factorial_16 (by decide) ?_
        exact G_chk (ih4 _ (by omega) (q + 1) (by omega) rfl) (zsc rfl (zsc rfl (zsc rfl zsn)))
  exact G_chk (L4 _ 1 (by omega) rfl) (zsc rfl (zsc rfl (zsc rfl zsn)))
set_option maxHeartbeats 4000000 in
theorem C_X1_howMany {K : zK} (hI : zInj K) (hN : kN K = 85) (c : CS) (rc : Int → Int) (aa : Int) (n : Nat) (hn : n ≤ 7)  : zCi K yX1_howMany cX1_howMany 1 (some .int) 0 [.ref (kad K 4)] (layC K (wE c (rc, (n : Int), aa))) (fun z u => z = ((2 ^ n : Nat) : Int) ∧ u = (layC K (wE c (rc, (n : Int), aa)))) := by
  refine zCi_in hI (by decide +kernel) (Nat.le_of_ble_eq_true rfl) (fun X O hE => ?_)
  refine r_iconst O dX1_howMany_0 ?_
  refine n_aload_n O dX1_howMany_1 rfl ?_
  refine E_get_mm O hN fl_X1_21 dX1_howMany_2 ?_
  refine r_ishl O (bit_shl (by omega)) dX1_howMany_5 ?_
  exact hE _ _ _ _ dX1_howMany_6 rfl ⟨rfl, rfl⟩
set_option maxHeartbeats 4000000 in
theorem C_X1_letsPass {K : zK} (hI : zInj K) (hN : kN K = 85) (c : CS) (rc : Int → Int) (aa : Int) (n : Nat) (hn : n ≤ 7) (hg : ∀ i : Nat, i < n → 0 ≤ rc (i : Int) ∧ rc (i : Int) ≤ 60) (ha : 0 ≤ aa ∧ aa ≤ 99) (s : Nat) (hs : s < 128) : zCi K yX1_letsPass cX1_letsPass 4 (some .boolean) 1 [.ref (kad K 4), .int (iI (s : Int))] (layC K (wE c (rc, (n : Int), aa))) (fun z u => z = letsI rc n aa s ∧ u = (layC K (wE c (rc, (n : Int), aa)))) := by
  refine zCi_in hI (by decide +kernel) (Nat.le_of_ble_eq_true rfl) (fun X O hE => ?_)
  refine r_iconst O dX1_letsPass_0 ?_
  refine n_istore_n O dX1_letsPass_1 (by decide) rfl ?_
  refine r_iconst O dX1_letsPass_2 ?_
  refine n_istore_n O dX1_letsPass_3 (by decide) rfl ?_
  have L4 : ∀ (zk : Nat) (i : Nat) (r : Int), (i ≤ n ∧ setSum rc s i = r) → 7 - i = zk → G K X 4 4 [(0, .ref (kad K 4)), (1, .int (iI (s : Int))), (2, .int (iI r)), (3, .int (iI (i : Int)))] [] (layC K (wE c (rc, (n : Int), aa))) := by
    intro zk
    induction zk using Nat.strongRecOn with
    | ind zk ih4 =>
      intro i r hinv hk
      obtain ⟨hi, hq⟩ := hinv
      have hsb := setSum_b hg s i hi
      refine n_iload_n O dX1_letsPass_4 rfl ?_
      refine n_aload_n O dX1_letsPass_5 rfl ?_
      refine E_get_mm O hN fl_X1_21 dX1_letsPass_6 ?_
      refine r_icmp_ge (tgt := 35) O ⟨by omega, by omega⟩ ⟨by omega, by omega⟩ dX1_letsPass_9 (by decide) (fun hc9 => ?_) (fun hc9 => ?_)
      · skip
        refine n_iload_n O dX1_letsPass_35 rfl ?_
        refine n_aload_n O dX1_letsPass_36 rfl ?_
        refine E_get_aa O hN fl_X1_25 dX1_letsPass_37 ?_
        refine r_icmp_lt (tgt := 47) O ⟨by omega, by omega⟩ ⟨by omega, by omega⟩ dX1_letsPass_40 (by decide) (fun hc40 => ?_) (fun hc40 => ?_)
        · skip
          refine r_iconst O dX1_letsPass_47 ?_
          exact hE _ _ _ _ dX1_letsPass_48 (nar01 (by omega)) (by have hin : i = n := (by omega); subst hin; exact ⟨by unfold letsI; rw [hq]; split <;> omega, rfl⟩)
        · skip
          refine r_iconst O dX1_letsPass_43 ?_
          refine r_goto (tgt := 48) O dX1_letsPass_44 (by decide) ?_
          exact hE _ _ _ _ dX1_letsPass_48 (nar01 (by omega)) (by have hin : i = n := (by omega); subst hin; exact ⟨by unfold letsI; rw [hq]; split <;> omega, rfl⟩)
      · skip
        refine n_iload_n O dX1_letsPass_12 rfl ?_
        refine n_iload_n O dX1_letsPass_13 rfl ?_
        refine r_callS2i O (C_X1_isIn hI _ s i (by omega) (by omega)) q_X1_29 (by decide) (by decide) (Nat.le_of_ble_eq_true rfl) dX1_letsPass_14 (fun zz14 zu14 hz14 => ?_)
        obtain ⟨rfl, rfl⟩ := hz14
        have hb01 := bitI_01 s i
        refine r_if_eq (tgt := 29) O ⟨by omega, by omega⟩ dX1_letsPass_17 (by decide) (fun hc17 => ?_) (fun hc17 => ?_)
        · skip
          refine n_iinc O dX1_letsPass_29 (by decide) rfl rfl ?_
          refine r_goto (tgt := 4) O dX1_letsPass_32 (by decide) ?_
          exact G_chk (ih4 _ (by omega) (i + 1) _ ⟨by omega, by show (if bitI s i = 1 then setSum rc s i + rc (i : Int) else setSum rc s i) = _; first | (rw [if_pos (by omega), hq]; done) | (rw [if_neg (by omega), hq]; done)⟩ rfl) (zsc rfl (zsc rfl (zsc rfl (zsc rfl zsn))))
        · skip
          refine n_iload_n O dX1_letsPass_20 rfl ?_
          refine n_aload_n O dX1_letsPass_21 rfl ?_
          refine E_get_rc O hN fl_X1_9 dX1_letsPass_22 ?_
          refine n_iload_n O dX1_letsPass_25 rfl ?_
          refine E_ld_rc O hN (by omega) (by omega) dX1_letsPass_26 ?_
          refine r_iadd O dX1_letsPass_27 ?_
          refine n_istore_n O dX1_letsPass_28 (by decide) rfl ?_
          refine n_iinc O dX1_letsPass_29 (by decide) rfl rfl ?_
          refine r_goto (tgt := 4) O dX1_letsPass_32 (by decide) ?_
          exact G_chk (ih4 _ (by omega) (i + 1) _ ⟨by omega, by show (if bitI s i = 1 then setSum rc s i + rc (i : Int) else setSum rc s i) = _; first | (rw [if_pos (by omega), hq]; done) | (rw [if_neg (by omega), hq]; done)⟩ rfl) (zsc rfl (zsc rfl (zsc rfl (zsc rfl zsn))))
  exact G_chk (L4 _ 0 0 ⟨by omega, rfl⟩ rfl) (zsc rfl (zsc rfl (zsc rfl (zsc rfl zsn))))
set_option maxHeartbeats 4000000 in
theorem C_X1_fewest {K : zK} (hI : zInj K) (hN : kN K = 85) (c : CS) (rc : Int → Int) (aa : Int) (n : Nat) (hn : n ≤ 7) (hg : ∀ i : Nat, i < n → 0 ≤ rc (i : Int) ∧ rc (i : Int) ≤ 60) (ha : 0 ≤ aa ∧ aa ≤ 99)  : zCi K yX1_fewest cX1_fewest 3 (some .int) 2 [.ref (kad K 4)] (layC K (wE c (rc, (n : Int), aa))) (fun z u => z = fewN (letsI rc n aa) (2 ^ n) ∧ u = (layC K (wE c (rc, (n : Int), aa)))) := by
  have hpw := pow_b n (by omega)
  refine zCi_in hI (by decide +kernel) (Nat.le_of_ble_eq_true rfl) (fun X O hE => ?_)
  refine r_bipush O (by decide +kernel) dX1_fewest_0 ?_
  refine n_istore_n O dX1_fewest_2 (by decide) rfl ?_
  refine r_iconst O dX1_fewest_3 ?_
  refine n_istore_n O dX1_fewest_4 (by decide) rfl ?_
  have L5 : ∀ (zk : Nat) (s : Nat) (b : Int), (s ≤ 2 ^ n ∧ fewN (letsI rc n aa) s = b) → 128 - s = zk → G K X 3 5 [(0, .ref (kad K 4)), (1, .int (iI b)), (2, .int (iI (s : Int)))] [] (layC K (wE c (rc, (n : Int), aa))) := by
    intro zk
    induction zk using Nat.strongRecOn with
    | ind zk ih5 =>
      intro s b hinv hk
      obtain ⟨hi, hq⟩ := hinv
      have hfb := fewN_b (letsI rc n aa) s
      rw [hq] at hfb
      refine n_iload_n O dX1_fewest_5 rfl ?_
      refine n_aload_n O dX1_fewest_6 rfl ?_
      refine r_callV0i O (C_X1_howMany hI hN _ _ _ _ hn) q_X1_33 (by rw [hN]; decide) (fs := _) rfl rfl rfl (by decide) (by decide) (Nat.le_of_ble_eq_true rfl) dX1_fewest_7 (fun zz7 zu7 hz7 => ?_)
      obtain ⟨rfl, rfl⟩ := hz7
      refine r_icmp_ge (tgt := 46) O ⟨by omega, by omega⟩ ⟨by omega, by omega⟩ dX1_fewest_10 (by decide) (fun hc10 => ?_) (fun hc10 => ?_)
      · skip
        refine n_iload_n O dX1_fewest_46 rfl ?_
        exact hE _ _ _ _ dX1_fewest_47 rfl (by have hin : s = 2 ^ n := (by omega); rw [← hin, hq]; exact ⟨rfl, rfl⟩)
      · skip
        refine n_aload_n O dX1_fewest_13 rfl ?_
        refine n_iload_n O dX1_fewest_14 rfl ?_
        refine r_callV1i O (C_X1_letsPass hI hN _ _ _ _ hn hg ha s (by omega)) q_X1_37 (by rw [hN]; decide) (fs := _) rfl rfl rfl (by decide) (by decide) (Nat.le_of_ble_eq_true rfl) dX1_fewest_15 (fun zz15 zu15 hz15 => ?_)
        obtain ⟨rfl, rfl⟩ := hz15
        have hl01 := letsI_01 rc n aa s
        refine r_if_eq (tgt := 40) O ⟨by omega, by omega⟩ dX1_fewest_18 (by decide) (fun hc18 => ?_) (fun hc18 => ?_)
        · skip
          refine n_iinc O dX1_fewest_40 (by decide) rfl rfl ?_
          refine r_goto (tgt := 5) O dX1_fewest_43 (by decide) ?_
          exact G_chk (ih5 _ (by omega) (s + 1) _ ⟨by omega, by show (if (letsI rc n aa) s = 1 ∧ (fewN (letsI rc n aa) s = -4 ∨ popN s < popN (fewN (letsI rc n aa) s).toNat) then (s : Int) else fewN (letsI rc n aa) s) = _; rw [hq]; first | (rw [if_pos (by omega)]; done) | (rw [if_neg (by omega)]; done)⟩ rfl) (zsc rfl (zsc rfl (zsc rfl zsn)))
        · skip
          refine n_iload_n O dX1_fewest_21 rfl ?_
          refine r_bipush O (by decide +kernel) dX1_fewest_22 ?_
          refine r_icmp_eq (tgt := 38) O ⟨by omega, by omega⟩ ⟨by omega, by omega⟩ dX1_fewest_24 (by decide) (fun hc24 => ?_) (fun hc24 => ?_)
          · skip
            refine n_iload_n O dX1_fewest_38 rfl ?_
            refine n_istore_n O dX1_fewest_39 (by decide) rfl ?_
            refine n_iinc O dX1_fewest_40 (by decide) rfl rfl ?_
            refine r_goto (tgt := 5) O dX1_fewest_43 (by decide) ?_
            exact G_chk (ih5 _ (by omega) (s + 1) _ ⟨by omega, by show (if (letsI rc n aa) s = 1 ∧ (fewN (letsI rc n aa) s = -4 ∨ popN s < popN (fewN (letsI rc n aa) s).toNat) then (s : Int) else fewN (letsI rc n aa) s) = _; rw [hq]; first | (rw [if_pos (by omega)]; done) | (rw [if_neg (by omega)]; done)⟩ rfl) (zsc rfl (zsc rfl (zsc rfl zsn)))
          · skip
            refine n_iload_n O dX1_fewest_27 rfl ?_
            refine r_callS1i O (C_J6_bitCount_0f7a4 hI _ s (by omega)) q_X1_41 (by decide) (by decide) (Nat.le_of_ble_eq_true rfl) dX1_fewest_28 (fun zz28 zu28 hz28 => ?_)
            obtain ⟨rfl, rfl⟩ := hz28
            refine n_iload_n O dX1_fewest_31 rfl ?_
            refine G_st (st' := .int (iI ((b.toNat : Nat) : Int)) :: _) (by rw [Int.toNat_of_nonneg (by omega)]) ?_
            refine r_callS1i O (C_J6_bitCount_0f7a4 hI _ b.toNat (by omega)) q_X1_41 (by decide) (by decide) (Nat.le_of_ble_eq_true rfl) dX1_fewest_32 (fun zz32 zu32 hz32 => ?_)
            obtain ⟨rfl, rfl⟩ := hz32
            have hp1 := popN_b s
            have hp2 := popN_b b.toNat
            refine r_icmp_ge (tgt := 40) O ⟨by omega, by omega⟩ ⟨by omega, by omega⟩ dX1_fewest_35 (by decide) (fun hc35 => ?_) (fun hc35 => ?_)
            · skip
              refine n_iinc O dX1_fewest_40 (by decide) rfl rfl ?_
              refine r_goto (tgt := 5) O dX1_fewest_43 (by decide) ?_
              exact G_chk (ih5 _ (by omega) (s + 1) _ ⟨by omega, by show (if (letsI rc n aa) s = 1 ∧ (fewN (letsI rc n aa) s = -4 ∨ popN s < popN (fewN (letsI rc n aa) s).toNat) then (s : Int) else fewN (letsI rc n aa) s) = _; rw [hq]; first | (rw [if_pos (by omega)]; done) | (rw [if_neg (by omega)]; done)⟩ rfl) (zsc rfl (zsc rfl (zsc rfl zsn)))
            · skip
              refine n_iload_n O dX1_fewest_38 rfl ?_
              refine n_istore_n O dX1_fewest_39 (by decide) rfl ?_
              refine n_iinc O dX1_fewest_40 (by decide) rfl rfl ?_
              refine r_goto (tgt := 5) O dX1_fewest_43 (by decide) ?_
              exact G_chk (ih5 _ (by omega) (s + 1) _ ⟨by omega, by show (if (letsI rc n aa) s = 1 ∧ (fewN (letsI rc n aa) s = -4 ∨ popN s < popN (fewN (letsI rc n aa) s).toNat) then (s : Int) else fewN (letsI rc n aa) s) = _; rw [hq]; first | (rw [if_pos (by omega)]; done) | (rw [if_neg (by omega)]; done)⟩ rfl) (zsc rfl (zsc rfl (zsc rfl zsn)))
  exact G_chk (L5 _ 0 (-4) ⟨by omega, rfl⟩ rfl) (zsc rfl (zsc rfl (zsc rfl zsn)))
set_option maxHeartbeats 4000000 in
theorem C_X1_orders {K : zK} (hI : zInj K) (hN : kN K = 85) (c : CS) (rc : Int → Int) (aa : Int) (n : Nat) (hn : n ≤ 7)  : zCi K yX1_orders cX1_orders 1 (some .int) 1 [.ref (kad K 4)] (layC K (wE c (rc, (n : Int), aa))) (fun z u => z = facN n ∧ u = (layC K (wE c (rc, (n : Int), aa)))) := by
  refine zCi_in hI (by decide +kernel) (Nat.le_of_ble_eq_true rfl) (fun X O hE => ?_)
  refine n_aload_n O dX1_orders_0 rfl ?_
  refine E_get_mm O hN fl_X1_21 dX1_orders_1 ?_
  refine r_callS1i O (C_X1_factorial hI _ n (by omega)) q_X1_46 (by decide) (by decide) (Nat.le_of_ble_eq_true rfl) dX1_orders_4 (fun zz4 zu4 hz4 => ?_)
  obtain ⟨rfl, rfl⟩ := hz4
  exact hE _ _ _ _ dX1_orders_7 rfl ⟨rfl, rfl⟩
set_option maxHeartbeats 4000000 in
theorem C_X1_ordersDecidedBy {K : zK} (hI : zInj K) (hN : kN K = 85) (c : CS) (rc : Int → Int) (aa : Int) (n : Nat) (hn : n ≤ 7) (hg : ∀ i : Nat, i < n → 0 ≤ rc (i : Int) ∧ rc (i : Int) ≤ 60) (ha : 0 ≤ aa ∧ aa ≤ 99) (i : Nat) (hin : i < n) : zCi K yX1_ordersDecidedBy cX1_ordersDecidedBy 5 (some .int) 2 [.ref (kad K 4), .int (iI (i : Int))] (layC K (wE c (rc, (n : Int), aa))) (fun z u => z = decN (letsI rc n aa) n i (2 ^ n) ∧ u = (layC K (wE c (rc, (n : Int), aa)))) := by
  have hpw := pow_b n (by omega)
  refine zCi_in hI (by decide +kernel) (Nat.le_of_ble_eq_true rfl) (fun X O hE => ?_)
  refine r_iconst O dX1_ordersDecidedBy_0 ?_
  refine n_istore_n O dX1_ordersDecidedBy_1 (by decide) rfl ?_
  refine r_iconst O dX1_ordersDecidedBy_2 ?_
  refine n_istore_n O dX1_ordersDecidedBy_3 (by decide) rfl ?_
  have L4 : ∀ (zk : Nat) (s : Nat) (b : Int), (s ≤ 2 ^ n ∧ decN (letsI rc n aa) n i s = b) → 128 - s = zk → G K X 5 4 [(0, .ref (kad K 4)), (1, .int (iI (i : Int))), (2, .int (iI b)), (3, .int (iI (s : Int)))] [] (layC K (wE c (rc, (n : Int), aa))) := by
    intro zk
    induction zk using Nat.strongRecOn with
    | ind zk ih4 =>
      intro s b hinv hk
      obtain ⟨hi, hq⟩ := hinv
      refine n_iload_n O dX1_ordersDecidedBy_4 rfl ?_
      refine n_aload_n O dX1_ordersDecidedBy_5 rfl ?_
      refine r_callV0i O (C_X1_howMany hI hN _ _ _ _ hn) q_X1_33 (by rw [hN]; decide) (fs := _) rfl rfl rfl (by decide) (by decide) (Nat.le_of_ble_eq_true rfl) dX1_ordersDecidedBy_6 (fun zz6 zu6 hz6 => ?_)
      obtain ⟨rfl, rfl⟩ := hz6
      refine r_icmp_ge (tgt := 73) O ⟨by omega, by omega⟩ ⟨by omega, by omega⟩ dX1_ordersDecidedBy_9 (by decide) (fun hc9 => ?_) (fun hc9 => ?_)
      · skip
        refine n_iload_n O dX1_ordersDecidedBy_73 rfl ?_
        exact hE _ _ _ _ dX1_ordersDecidedBy_74 rfl (by have hi2 : s = 2 ^ n := (by omega); rw [← hi2, hq]; exact ⟨rfl, rfl⟩)
      · skip
        have hs7 : s < 128 := by omega
        have h5 := bit_d5 s hs7 i (by omega)
        refine n_iload_n O dX1_ordersDecidedBy_12 rfl ?_
        refine n_iload_n O dX1_ordersDecidedBy_13 rfl ?_
        refine r_callS2i O (C_X1_isIn hI _ s i (by omega) (by omega)) q_X1_29 (by decide) (by decide) (Nat.le_of_ble_eq_true rfl) dX1_ordersDecidedBy_14 (fun zz14 zu14 hz14 => ?_)
        obtain ⟨rfl, rfl⟩ := hz14
        have hb01 := bitI_01 s i
        refine r_if_ne (tgt := 67) O ⟨by omega, by omega⟩ dX1_ordersDecidedBy_17 (by decide) (fun hc17 => ?_) (fun hc17 => ?_)
        · skip
          refine n_iinc O dX1_ordersDecidedBy_67 (by decide) rfl rfl ?_
          refine r_goto (tgt := 4) O dX1_ordersDecidedBy_70 (by decide) ?_
          exact G_chk (ih4 _ (by omega) (s + 1) _ ⟨by omega, by show (if bitI s i = 0 ∧ (letsI rc n aa) s = 0 ∧ (letsI rc n aa) (s ||| 2 ^ i) = 1 then decN (letsI rc n aa) n i s + facN (popN s) * facN (n - 1 - popN s) else decN (letsI rc n aa) n i s) = _; rw [hq]; first | (rw [if_pos (by omega)]; done) | (rw [if_neg (by omega)]; done)⟩ rfl) (zsc rfl (zsc rfl (zsc rfl (zsc rfl zsn))))
        · skip
          refine n_aload_n O dX1_ordersDecidedBy_20 rfl ?_
          refine n_iload_n O dX1_ordersDecidedBy_21 rfl ?_
          refine r_callV1i O (C_X1_letsPass hI hN _ _ _ _ hn hg ha s (by omega)) q_X1_37 (by rw [hN]; decide) (fs := _) rfl rfl rfl (by decide) (by decide) (Nat.le_of_ble_eq_true rfl) dX1_ordersDecidedBy_22 (fun zz22 zu22 hz22 => ?_)
          obtain ⟨rfl, rfl⟩ := hz22
          have hl01 := letsI_01 rc n aa s
          refine r_if_ne (tgt := 67) O ⟨by omega, by omega⟩ dX1_ordersDecidedBy_25 (by decide) (fun hc25 => ?_) (fun hc25 => ?_)
          · skip
            refine n_iinc O dX1_ordersDecidedBy_67 (by decide) rfl rfl ?_
            refine r_goto (tgt := 4) O dX1_ordersDecidedBy_70 (by decide) ?_
            exact G_chk (ih4 _ (by omega) (s + 1) _ ⟨by omega, by show (if bitI s i = 0 ∧ (letsI rc n aa) s = 0 ∧ (letsI rc n aa) (s ||| 2 ^ i) = 1 then decN (letsI rc n aa) n i s + facN (popN s) * facN (n - 1 - popN s) else decN (letsI rc n aa) n i s) = _; rw [hq]; first | (rw [if_pos (by omega)]; done) | (rw [if_neg (by omega)]; done)⟩ rfl) (zsc rfl (zsc rfl (zsc rfl (zsc rfl zsn))))
          · skip
            refine n_aload_n O dX1_ordersDecidedBy_28 rfl ?_
            refine n_iload_n O dX1_ordersDecidedBy_29 rfl ?_
            refine r_iconst O dX1_ordersDecidedBy_30 ?_
            refine n_iload_n O dX1_ordersDecidedBy_31 rfl ?_
            refine r_ishl O (bit_shl (by omega)) dX1_ordersDecidedBy_32 ?_
            refine r_ior O (bit_or (by omega) (by omega)) dX1_ordersDecidedBy_33 ?_
            refine r_callV1i O (C_X1_letsPass hI hN _ _ _ _ hn hg ha (s ||| 2 ^ i) (by omega)) q_X1_37 (by rw [hN]; decide) (fs := _) rfl rfl rfl (by decide) (by decide) (Nat.le_of_ble_eq_true rfl) dX1_ordersDecidedBy_34 (fun zz34 zu34 hz34 => ?_)
            obtain ⟨rfl, rfl⟩ := hz34
            have hlo01 := letsI_01 rc n aa (s ||| 2 ^ i)
            refine r_if_eq (tgt := 67) O ⟨by omega, by omega⟩ dX1_ordersDecidedBy_37 (by decide) (fun hc37 => ?_) (fun hc37 => ?_)
            · skip
              refine n_iinc O dX1_ordersDecidedBy_67 (by decide) rfl rfl ?_
              refine r_goto (tgt := 4) O dX1_ordersDecidedBy_70 (by decide) ?_
              exact G_chk (ih4 _ (by omega) (s + 1) _ ⟨by omega, by show (if bitI s i = 0 ∧ (letsI rc n aa) s = 0 ∧ (letsI rc n aa) (s ||| 2 ^ i) = 1 then decN (letsI rc n aa) n i s + facN (popN s) * facN (n - 1 - popN s) else decN (letsI rc n aa) n i s) = _; rw [hq]; first | (rw [if_pos (by omega)]; done) | (rw [if_neg (by omega)]; done)⟩ rfl) (zsc rfl (zsc rfl (zsc rfl (zsc rfl zsn))))
            · skip
              refine n_iload_n O dX1_ordersDecidedBy_40 rfl ?_
              refine r_callS1i O (C_J6_bitCount_0f7a4 hI _ s (by omega)) q_X1_41 (by decide) (by decide) (Nat.le_of_ble_eq_true rfl) dX1_ordersDecidedBy_41 (fun zz41 zu41 hz41 => ?_)
              obtain ⟨rfl, rfl⟩ := hz41
              refine n_istore O dX1_ordersDecidedBy_44 (by decide) rfl ?_
              have hpl := (pop_lt n (by omega) s (by omega)).2 i hin (by omega)
              have h8 : popN s ≤ 7 := popN_b s
              refine n_iload_n O dX1_ordersDecidedBy_46 rfl ?_
              refine n_iload O dX1_ordersDecidedBy_47 rfl ?_
              refine r_callS1i O (C_X1_factorial hI _ (popN s) (by omega)) q_X1_46 (by decide) (by decide) (Nat.le_of_ble_eq_true rfl) dX1_ordersDecidedBy_49 (fun zz49 zu49 hz49 => ?_)
              obtain ⟨rfl, rfl⟩ := hz49
              refine n_aload_n O dX1_ordersDecidedBy_52 rfl ?_
              refine E_get_mm O hN fl_X1_21 dX1_ordersDecidedBy_53 ?_
              refine r_iconst O dX1_ordersDecidedBy_56 ?_
              refine r_isub O dX1_ordersDecidedBy_57 ?_
              refine n_iload O dX1_ordersDecidedBy_58 rfl ?_
              refine r_isub O dX1_ordersDecidedBy_60 ?_
              refine G_st (st' := .int (iI ((n - 1 - popN s : Nat) : Int)) :: _) (by have e : ((n : Int) - 1 - (popN s : Int)) = ((n - 1 - popN s : Nat) : Int) := (by omega); rw [e]) ?_
              refine r_callS1i O (C_X1_factorial hI _ (n - 1 - popN s) (by omega)) q_X1_46 (by decide) (by decide) (Nat.le_of_ble_eq_true rfl) dX1_ordersDecidedBy_61 (fun zz61 zu61 hz61 => ?_)
              obtain ⟨rfl, rfl⟩ := hz61
              refine r_imul O dX1_ordersDecidedBy_64 ?_
              refine r_iadd O dX1_ordersDecidedBy_65 ?_
              refine n_istore_n O dX1_ordersDecidedBy_66 (by decide) rfl ?_
              refine n_iinc O dX1_ordersDecidedBy_67 (by decide) rfl rfl ?_
              refine r_goto (tgt := 4) O dX1_ordersDecidedBy_70 (by decide) ?_
              exact G_chk (ih4 _ (by omega) (s + 1) _ ⟨by omega, by show (if bitI s i = 0 ∧ (letsI rc n aa) s = 0 ∧ (letsI rc n aa) (s ||| 2 ^ i) = 1 then decN (letsI rc n aa) n i s + facN (popN s) * facN (n - 1 - popN s) else decN (letsI rc n aa) n i s) = _; rw [hq]; first | (rw [if_pos (by omega)]; done) | (rw [if_neg (by omega)]; done)⟩ rfl) (zsc rfl (zsc rfl (zsc rfl (zsc rfl zsn))))
  exact G_chk (L4 _ 0 0 ⟨by omega, rfl⟩ rfl) (zsc rfl (zsc rfl (zsc rfl (zsc rfl zsn))))
set_option maxHeartbeats 4000000 in
theorem C_X1_cases {K : zK} (hI : zInj K) (hN : kN K = 85) (c : CS) (rc : Int → Int) (aa : Int) (n : Nat) (hn : n ≤ 7)  : zCi K yX1_cases cX1_cases 3 (some .int) 0 [.ref (kad K 4)] (layC K (wE c (rc, (n : Int), aa))) (fun z u => z = tenN n ∧ u = (layC K (wE c (rc, (n : Int), aa)))) := by
  refine zCi_in hI (by decide +kernel) (Nat.le_of_ble_eq_true rfl) (fun X O hE => ?_)
  refine r_iconst O dX1_cases_0 ?_
  refine n_istore_n O dX1_cases_1 (by decide) rfl ?_
  refine r_iconst O dX1_cases_2 ?_
  refine n_istore_n O dX1_cases_3 (by decide) rfl ?_
  have L4 : ∀ (zk : Nat) (i : Nat), (i ≤ n) → 7 - i = zk → G K X 3 4 [(0, .ref (kad K 4)), (1, .int (iI (tenN i))), (2, .int (iI (i : Int)))] [] (layC K (wE c (rc, (n : Int), aa))) := by
    intro zk
    induction zk using Nat.strongRecOn with
    | ind zk ih4 =>
      intro i hinv hk
      refine n_iload_n O dX1_cases_4 rfl ?_
      refine n_aload_n O dX1_cases_5 rfl ?_
      refine E_get_mm O hN fl_X1_21 dX1_cases_6 ?_
      refine r_icmp_ge (tgt := 23) O ⟨by omega, by omega⟩ ⟨by omega, by omega⟩ dX1_cases_9 (by decide) (fun hc9 => ?_) (fun hc9 => ?_)
      · skip
        refine n_iload_n O dX1_cases_23 rfl ?_
        exact hE _ _ _ _ dX1_cases_24 rfl (by have hin : n = i := (by omega); rw [hin]; exact ⟨rfl, rfl⟩)
      · skip
        refine n_iload_n O dX1_cases_12 rfl ?_
        refine r_bipush O (by decide +kernel) dX1_cases_13 ?_
        refine r_imul O dX1_cases_15 ?_
        refine n_istore_n O dX1_cases_16 (by decide) rfl ?_
        refine n_iinc O dX1_cases_17 (by decide) rfl rfl ?_
        refine r_goto (tgt := 4) O dX1_cases_20 (by decide) ?_
        exact G_chk (ih4 _ (by omega) (i + 1) (by omega) rfl) (zsc rfl (zsc rfl (zsc rfl zsn)))
  exact G_chk (L4 _ 0 (by omega) rfl) (zsc rfl (zsc rfl (zsc rfl zsn)))
set_option maxHeartbeats 4000000 in
theorem C_X1_casesOf {K : zK} (hI : zInj K) (hN : kN K = 85) (c : CS) (rc : Int → Int) (aa : Int) (n : Nat) (hn : n ≤ 7) (s : Nat) (hs : s < 128) (x : Int) (hx0 : 0 ≤ x) (hx1 : x ≤ 10) : zCi K yX1_casesOf cX1_casesOf 5 (some .int) 1 [.ref (kad K 4), .int (iI (s : Int)), .int (iI x)] (layC K (wE c (rc, (n : Int), aa))) (fun z u => z = casN x s n ∧ u = (layC K (wE c (rc, (n : Int), aa)))) := by
  refine zCi_in hI (by decide +kernel) (Nat.le_of_ble_eq_true rfl) (fun X O hE => ?_)
  refine r_iconst O dX1_casesOf_0 ?_
  refine n_istore_n O dX1_casesOf_1 (by decide) rfl ?_
  refine r_iconst O dX1_casesOf_2 ?_
  refine n_istore O dX1_casesOf_3 (by decide) rfl ?_
  have L5 : ∀ (zk : Nat) (i : Nat) (r : Int), (i ≤ n ∧ casN x s i = r) → 7 - i = zk → G K X 5 5 [(0, .ref (kad K 4)), (1, .int (iI (s : Int))), (2, .int (iI x)), (3, .int (iI r)), (4, .int (iI (i : Int)))] [] (layC K (wE c (rc, (n : Int), aa))) := by
    intro zk
    induction zk using Nat.strongRecOn with
    | ind zk ih5 =>
      intro i r hinv hk
      obtain ⟨hi, hq⟩ := hinv
      refine n_iload O dX1_casesOf_5 rfl ?_
      refine n_aload_n O dX1_casesOf_7 rfl ?_
      refine E_get_mm O hN fl_X1_21 dX1_casesOf_8 ?_
      refine r_icmp_ge (tgt := 40) O ⟨by omega, by omega⟩ ⟨by omega, by omega⟩ dX1_casesOf_11 (by decide) (fun hc11 => ?_) (fun hc11 => ?_)
      · skip
        refine n_iload_n O dX1_casesOf_40 rfl ?_
        exact hE _ _ _ _ dX1_casesOf_41 rfl (by have hin : i = n := (by omega); subst hin; exact ⟨hq.symm, rfl⟩)
      · skip
        refine n_iload_n O dX1_casesOf_14 rfl ?_
        refine n_iload_n O dX1_casesOf_15 rfl ?_
        refine n_iload O dX1_casesOf_16 rfl ?_
        refine r_callS2i O (C_X1_isIn hI _ s i (by omega) (by omega)) q_X1_29 (by decide) (by decide) (Nat.le_of_ble_eq_true rfl) dX1_casesOf_18 (fun zz18 zu18 hz18 => ?_)
        obtain ⟨rfl, rfl⟩ := hz18
        have hb01 := bitI_01 s i
        refine r_if_eq (tgt := 28) O ⟨by omega, by omega⟩ dX1_casesOf_21 (by decide) (fun hc21 => ?_) (fun hc21 => ?_)
        · skip
          refine r_bipush O (by decide +kernel) dX1_casesOf_28 ?_
          refine n_iload_n O dX1_casesOf_30 rfl ?_
          refine r_isub O dX1_casesOf_31 ?_
          refine r_imul O dX1_casesOf_32 ?_
          refine n_istore_n O dX1_casesOf_33 (by decide) rfl ?_
          refine n_iinc O dX1_casesOf_34 (by decide) rfl rfl ?_
          refine r_goto (tgt := 5) O dX1_casesOf_37 (by decide) ?_
          exact G_chk (ih5 _ (by omega) (i + 1) _ ⟨by omega, by show casN x s i * (if bitI s i = 1 then x else 10 - x) = _; rw [hq]; first | (rw [if_pos (by omega)]; done) | (rw [if_neg (by omega)]; done)⟩ rfl) (zsc rfl (zsc rfl (zsc rfl (zsc rfl (zsc rfl zsn)))))
        · skip
          refine n_iload_n O dX1_casesOf_24 rfl ?_
          refine r_goto (tgt := 32) O dX1_casesOf_25 (by decide) ?_
          refine r_imul O dX1_casesOf_32 ?_
          refine n_istore_n O dX1_casesOf_33 (by decide) rfl ?_
          refine n_iinc O dX1_casesOf_34 (by decide) rfl rfl ?_
          refine r_goto (tgt := 5) O dX1_casesOf_37 (by decide) ?_
          exact G_chk (ih5 _ (by omega) (i + 1) _ ⟨by omega, by show casN x s i * (if bitI s i = 1 then x else 10 - x) = _; rw [hq]; first | (rw [if_pos (by omega)]; done) | (rw [if_neg (by omega)]; done)⟩ rfl) (zsc rfl (zsc rfl (zsc rfl (zsc rfl (zsc rfl zsn)))))
  exact G_chk (L5 _ 0 1 ⟨by omega, rfl⟩ rfl) (zsc rfl (zsc rfl (zsc rfl (zsc rfl (zsc rfl zsn)))))
set_option maxHeartbeats 4000000 in
theorem C_X1_passingCasesBy {K : zK} (hI : zInj K) (hN : kN K = 85) (c : CS) (rc : Int → Int) (aa : Int) (n : Nat) (hn : n ≤ 7) (hg : ∀ i : Nat, i < n → 0 ≤ rc (i : Int) ∧ rc (i : Int) ≤ 60) (ha : 0 ≤ aa ∧ aa ≤ 99) (x : Int) (hx0 : 0 ≤ x) (hx1 : x ≤ 10) : zCi K yX1_passingCasesBy cX1_passingCasesBy 4 (some .int) 2 [.ref (kad K 4), .int (iI x)] (layC K (wE c (rc, (n : Int), aa))) (fun z u => z = likN (letsI rc n aa) x n (2 ^ n) ∧ u = (layC K (wE c (rc, (n : Int), aa)))) := by
  have hpw := pow_b n (by omega)
  refine zCi_in hI (by decide +kernel) (Nat.le_of_ble_eq_true rfl) (fun X O hE => ?_)
  refine r_iconst O dX1_passingCasesBy_0 ?_
  refine n_istore_n O dX1_passingCasesBy_1 (by decide) rfl ?_
  refine r_iconst O dX1_passingCasesBy_2 ?_
  refine n_istore_n O dX1_passingCasesBy_3 (by decide) rfl ?_
  have L4 : ∀ (zk : Nat) (s : Nat) (b : Int), (s ≤ 2 ^ n ∧ likN (letsI rc n aa) x n s = b) → 128 - s = zk → G K X 4 4 [(0, .ref (kad K 4)), (1, .int (iI x)), (2, .int (iI b)), (3, .int (iI (s : Int)))] [] (layC K (wE c (rc, (n : Int), aa))) := by
    intro zk
    induction zk using Nat.strongRecOn with
    | ind zk ih4 =>
      intro s b hinv hk
      obtain ⟨hi, hq⟩ := hinv
      refine n_iload_n O dX1_passingCasesBy_4 rfl ?_
      refine n_aload_n O dX1_passingCasesBy_5 rfl ?_
      refine r_callV0i O (C_X1_howMany hI hN _ _ _ _ hn) q_X1_33 (by rw [hN]; decide) (fs := _) rfl rfl rfl (by decide) (by decide) (Nat.le_of_ble_eq_true rfl) dX1_passingCasesBy_6 (fun zz6 zu6 hz6 => ?_)
      obtain ⟨rfl, rfl⟩ := hz6
      refine r_icmp_ge (tgt := 35) O ⟨by omega, by omega⟩ ⟨by omega, by omega⟩ dX1_passingCasesBy_9 (by decide) (fun hc9 => ?_) (fun hc9 => ?_)
      · skip
        refine n_iload_n O dX1_passingCasesBy_35 rfl ?_
        exact hE _ _ _ _ dX1_passingCasesBy_36 rfl (by have hi2 : s = 2 ^ n := (by omega); rw [← hi2, hq]; exact ⟨rfl, rfl⟩)
      · skip
        refine n_aload_n O dX1_passingCasesBy_12 rfl ?_
        refine n_iload_n O dX1_passingCasesBy_13 rfl ?_
        refine r_callV1i O (C_X1_letsPass hI hN _ _ _ _ hn hg ha s (by omega)) q_X1_37 (by rw [hN]; decide) (fs := _) rfl rfl rfl (by decide) (by decide) (Nat.le_of_ble_eq_true rfl) dX1_passingCasesBy_14 (fun zz14 zu14 hz14 => ?_)
        obtain ⟨rfl, rfl⟩ := hz14
        have hl01 := letsI_01 rc n aa s
        refine r_if_eq (tgt := 29) O ⟨by omega, by omega⟩ dX1_passingCasesBy_17 (by decide) (fun hc17 => ?_) (fun hc17 => ?_)
        · skip
          refine n_iinc O dX1_passingCasesBy_29 (by decide) rfl rfl ?_
          refine r_goto (tgt := 4) O dX1_passingCasesBy_32 (by decide) ?_
          exact G_chk (ih4 _ (by omega) (s + 1) _ ⟨by omega, by show (if (letsI rc n aa) s = 1 then likN (letsI rc n aa) x n s + casN x s n else likN (letsI rc n aa) x n s) = _; rw [hq]; first | (rw [if_pos (by omega)]; done) | (rw [if_neg (by omega)]; done)⟩ rfl) (zsc rfl (zsc rfl (zsc rfl (zsc rfl zsn))))
        · skip
          refine n_iload_n O dX1_passingCasesBy_20 rfl ?_
          refine n_aload_n O dX1_passingCasesBy_21 rfl ?_
          refine n_iload_n O dX1_passingCasesBy_22 rfl ?_
          refine n_iload_n O dX1_passingCasesBy_23 rfl ?_
          refine r_callV2i O (C_X1_casesOf hI hN _ _ _ _ hn s (by omega) x hx0 hx1) q_X1_49 (by rw [hN]; decide) (fs := _) rfl rfl rfl (by decide) (by decide) (Nat.le_of_ble_eq_true rfl) dX1_passingCasesBy_24 (fun zz24 zu24 hz24 => ?_)
          obtain ⟨rfl, rfl⟩ := hz24
          refine r_iadd O dX1_passingCasesBy_27 ?_
          refine n_istore_n O dX1_passingCasesBy_28 (by decide) rfl ?_
          refine n_iinc O dX1_passingCasesBy_29 (by decide) rfl rfl ?_
          refine r_goto (tgt := 4) O dX1_passingCasesBy_32 (by decide) ?_
          exact G_chk (ih4 _ (by omega) (s + 1) _ ⟨by omega, by show (if (letsI rc n aa) s = 1 then likN (letsI rc n aa) x n s + casN x s n else likN (letsI rc n aa) x n s) = _; rw [hq]; first | (rw [if_pos (by omega)]; done) | (rw [if_neg (by omega)]; done)⟩ rfl) (zsc rfl (zsc rfl (zsc rfl (zsc rfl zsn))))
  exact G_chk (L4 _ 0 0 ⟨by omega, rfl⟩ rfl) (zsc rfl (zsc rfl (zsc rfl (zsc rfl zsn))))
set_option maxHeartbeats 4000000 in
theorem C_X1_measure {K : zK} (hI : zInj K) (hN : kN K = 85) (c : CS) (rc : Int → Int) (mm aa : Int) (j : Nat) (hj : j < 12) (hv : okV (c.1 j)) : zCv K yX1_measure cX1_measure 3 3 [.ref (kad K 4), .ref (kad K (6 * j + 13))] (layC K (wE c (rc, mm, aa))) (fun u => ∃ g : Int → Int, (∀ i : Nat, (i : Int) < qn (c.1 j) → g (i : Int) = reachV (c.1 j) (i : Int)) ∧ u = layC K (wE c (g, qn (c.1 j), qam (c.1 j)))) := by
  have hn7 := hv.1
  refine zCv_in hI (by decide +kernel) (Nat.le_of_ble_eq_true rfl) (fun X O hE => ?_)
  refine n_aload_n O dX1_measure_0 rfl ?_
  refine n_aload_n O dX1_measure_1 rfl ?_
  refine t_get_n O hN hj fl_X1_15 dX1_measure_2 ?_
  refine G_st (st' := .int (iI (qn (c.1 j))) :: _) rfl ?_
  refine E_put_mm O hN fl_X1_21 dX1_measure_5 ?_
  refine n_aload_n O dX1_measure_8 rfl ?_
  refine n_aload_n O dX1_measure_9 rfl ?_
  refine t_get_am O hN hj fl_X1_22 dX1_measure_10 ?_
  refine G_st (st' := .int (iI (qam (c.1 j))) :: _) rfl ?_
  refine E_put_aa O hN fl_X1_25 dX1_measure_13 ?_
  refine r_iconst O dX1_measure_16 ?_
  refine n_istore_n O dX1_measure_17 (by decide) rfl ?_
  have L18 : ∀ (zk : Nat) (i : Nat) (g : Int → Int), ((i : Int) ≤ qn (c.1 j) ∧ ∀ m : Nat, m < i → g (m : Int) = reachV (c.1 j) (m : Int)) → 7 - i = zk → G K X 3 18 [(0, .ref (kad K 4)), (1, .ref (kad K (6 * j + 13))), (2, .int (iI (i : Int)))] [] (layC K (wE c (g, qn (c.1 j), qam (c.1 j)))) := by
    intro zk
    induction zk using Nat.strongRecOn with
    | ind zk ih18 =>
      intro i g hinv hk
      obtain ⟨hi, hq⟩ := hinv
      refine n_iload_n O dX1_measure_18 rfl ?_
      refine n_aload_n O dX1_measure_19 rfl ?_
      refine E_get_mm O hN fl_X1_21 dX1_measure_20 ?_
      refine r_icmp_ge (tgt := 43) O ⟨by omega, by omega⟩ ⟨by omega, by omega⟩ dX1_measure_23 (by decide) (fun hc23 => ?_) (fun hc23 => ?_)
      · skip
        exact hE _ _ _ dX1_measure_43 ⟨g, fun m hm => hq m (by omega), rfl⟩
      · skip
        refine n_aload_n O dX1_measure_26 rfl ?_
        refine E_get_rc O hN fl_X1_9 dX1_measure_27 ?_
        refine n_iload_n O dX1_measure_30 rfl ?_
        refine n_aload_n O dX1_measure_31 rfl ?_
        refine n_iload_n O dX1_measure_32 rfl ?_
        refine r_callV1i O (E_X3_reach hI hN (wE c (g, qn (c.1 j), qam (c.1 j))) j hj hv (i : Int) (by omega) (by show (i : Int) < qn (c.1 j); omega)) q_X1_26 (by rw [hN]; omega) (lay_j0 K _ _) rfl rfl (by decide) (by decide) (Nat.le_of_ble_eq_true rfl) dX1_measure_33 (fun zz33 zu33 hz33 => ?_)
        obtain ⟨rfl, rfl⟩ := hz33
        refine E_st_rc O hN (by omega) (by omega) dX1_measure_36 ?_
        refine n_iinc O dX1_measure_37 (by decide) rfl rfl ?_
        refine r_goto (tgt := 18) O dX1_measure_40 (by decide) ?_
        exact G_chk (ih18 _ (by omega) (i + 1) _ ⟨by omega, fun m hm => by unfold uI; by_cases e : (m : Int) = (i : Int); (rw [if_pos e, e]; first | done | rfl); (rw [if_neg e]; exact hq m (by omega))⟩ rfl) (zsc rfl (zsc rfl (zsc rfl zsn)))
  exact G_chk (L18 _ 0 rc ⟨by omega, fun m hm => by omega⟩ rfl) (zsc rfl (zsc rfl (zsc rfl zsn)))
