set_option maxHeartbeats 4000000 in
theorem C_X2_clear {K : zK} (hI : zInj K) (hN : kN K = 85) (c : CS) (wh mu : Int → Int) (my : Int)  : zCv K yX2_clear cX2_clear 1 0 [.ref (kad K 6)] (layC K (wV c (wh, mu, my))) (fun u => u = layC K (wV c (wh, mu, 0))) := by
  refine zCv_in hI (by decide +kernel) (Nat.le_of_ble_eq_true rfl) (fun X O hE => ?_)
  refine n_aload_n O dX2_clear_0 rfl ?_
  refine r_iconst O dX2_clear_1 ?_
  refine V_put_my O hN fl_X2_18 dX2_clear_2 ?_
  exact hE _ _ _ dX2_clear_5 rfl
set_option maxHeartbeats 4000000 in
theorem C_X2_add {K : zK} (hI : zInj K) (hN : kN K = 85) (c : CS) (wh mu : Int → Int) (my : Int) (hmy : 0 ≤ my ∧ my ≤ 6) (i n : Int) : zCi K yX2_add cX2_add 3 (some .boolean) 1 [.ref (kad K 6), .int (iI i), .int (iI n)] (layC K (wV c (wh, mu, my))) (fun z u => (my ≤ 5 ∧ z = 1 ∧ u = layC K (wV c (uI wh my i, uI mu my n, my + 1))) ∨ (¬ my ≤ 5 ∧ z = 0 ∧ u = (layC K (wV c (wh, mu, my))))) := by
  refine zCi_in hI (by decide +kernel) (Nat.le_of_ble_eq_true rfl) (fun X O hE => ?_)
  refine n_aload_n O dX2_add_0 rfl ?_
  refine V_get_my O hN fl_X2_18 dX2_add_1 ?_
  refine r_iconst O dX2_add_4 ?_
  refine r_iconst O dX2_add_5 ?_
  refine r_callN3i O (C_X5_isOutside hI _ _ _ _ ⟨by omega, by omega⟩ ⟨by omega, by omega⟩ ⟨by omega, by omega⟩) q_X2_22 (by decide) (by decide) (Nat.le_of_ble_eq_true rfl) dX2_add_6 (fun zz6 zu6 hz6 => ?_)
  obtain ⟨hzo, rfl⟩ := hz6
  have hoo := outV_c hzo
  refine r_if_eq (tgt := 14) O ⟨by omega, by omega⟩ dX2_add_9 (by decide) (fun hc9 => ?_) (fun hc9 => ?_)
  · skip
    refine n_aload_n O dX2_add_14 rfl ?_
    refine V_get_wh O hN fl_X2_9 dX2_add_15 ?_
    refine n_aload_n O dX2_add_18 rfl ?_
    refine V_get_my O hN fl_X2_18 dX2_add_19 ?_
    refine n_iload_n O dX2_add_22 rfl ?_
    refine V_st_wh O hN (by omega) (by omega) dX2_add_23 ?_
    refine n_aload_n O dX2_add_24 rfl ?_
    refine V_get_mu O hN fl_X2_15 dX2_add_25 ?_
    refine n_aload_n O dX2_add_28 rfl ?_
    refine V_get_my O hN fl_X2_18 dX2_add_29 ?_
    refine n_iload_n O dX2_add_32 rfl ?_
    refine V_st_mu O hN (by omega) (by omega) dX2_add_33 ?_
    refine n_aload_n O dX2_add_34 rfl ?_
    refine r_dup O rfl dX2_add_35 ?_
    refine V_get_my O hN fl_X2_18 dX2_add_36 ?_
    refine r_iconst O dX2_add_39 ?_
    refine r_iadd O dX2_add_40 ?_
    refine V_put_my O hN fl_X2_18 dX2_add_41 ?_
    refine r_iconst O dX2_add_44 ?_
    exact hE _ _ _ _ dX2_add_45 (nar01 (by omega)) (by first | exact Or.inr ⟨by omega, rfl, rfl⟩ | exact Or.inl ⟨by omega, rfl, rfl⟩)
  · skip
    refine r_iconst O dX2_add_12 ?_
    exact hE _ _ _ _ dX2_add_13 (nar01 (by omega)) (by first | exact Or.inr ⟨by omega, rfl, rfl⟩ | exact Or.inl ⟨by omega, rfl, rfl⟩)
set_option maxHeartbeats 4000000 in
theorem C_X2_allSoBetween {K : zK} (hI : zInj K) (hN : kN K = 85) (c : CS) (wh mu : Int → Int) (my : Int) (hmy : 0 ≤ my ∧ my ≤ 6) (j1 j2 : Nat) (hj1 : j1 < 12) (hj2 : j2 < 12) (hw : ∀ k : Int, 0 ≤ k → k < my → (0 ≤ wh k ∧ wh k < 7) ∧ zB (qea (c.1 j2) (wh k) - qea (c.1 j1) (wh k)) ∧ zB (mu k)) : zCi K yX2_allSoBetween cX2_allSoBetween 5 (some .boolean) 0 [.ref (kad K 6), .ref (kad K (6 * j1 + 13)), .ref (kad K (6 * j2 + 13))] (layC K (wV c (wh, mu, my))) (fun z u => ((∀ k : Int, 0 ≤ k → k < my → qea (c.1 j2) (wh k) - qea (c.1 j1) (wh k) = mu k) ∧ z = 1 ∧ u = (layC K (wV c (wh, mu, my)))) ∨ (¬ (∀ k : Int, 0 ≤ k → k < my → qea (c.1 j2) (wh k) - qea (c.1 j1) (wh k) = mu k) ∧ z = 0 ∧ u = (layC K (wV c (wh, mu, my))))) := by
  refine zCi_in hI (by decide +kernel) (Nat.le_of_ble_eq_true rfl) (fun X O hE => ?_)
  refine r_iconst O dX2_allSoBetween_0 ?_
  refine n_istore_n O dX2_allSoBetween_1 (by decide) rfl ?_
  have L2 : ∀ (zk : Nat) (i : Int), ((0 ≤ i ∧ i ≤ my) ∧ ∀ k : Int, 0 ≤ k → k < i → qea (c.1 j2) (wh k) - qea (c.1 j1) (wh k) = mu k) → (6 - i).toNat = zk → G K X 5 2 [(0, .ref (kad K 6)), (1, .ref (kad K (6 * j1 + 13))), (2, .ref (kad K (6 * j2 + 13))), (3, .int (iI i))] [] (layC K (wV c (wh, mu, my))) := by
    intro zk
    induction zk using Nat.strongRecOn with
    | ind zk ih2 =>
      intro i hinv hk
      obtain ⟨hi, hq⟩ := hinv
      refine n_iload_n O dX2_allSoBetween_2 rfl ?_
      refine n_aload_n O dX2_allSoBetween_3 rfl ?_
      refine V_get_my O hN fl_X2_18 dX2_allSoBetween_4 ?_
      refine r_icmp_ge (tgt := 50) O ⟨by omega, by omega⟩ ⟨by omega, by omega⟩ dX2_allSoBetween_7 (by decide) (fun hc7 => ?_) (fun hc7 => ?_)
      · skip
        refine r_iconst O dX2_allSoBetween_50 ?_
        exact hE _ _ _ _ dX2_allSoBetween_51 (nar01 (by omega)) (Or.inl ⟨fun k h0 h1 => hq k h0 (by omega), rfl, rfl⟩)
      · skip
        obtain ⟨hwi, hb1, hb2⟩ := hw i (by omega) (by omega)
        refine n_aload_n O dX2_allSoBetween_10 rfl ?_
        refine V_get_wh O hN fl_X2_9 dX2_allSoBetween_11 ?_
        refine n_iload_n O dX2_allSoBetween_14 rfl ?_
        refine V_ld_wh O hN (by omega) (by omega) dX2_allSoBetween_15 ?_
        refine n_istore O dX2_allSoBetween_16 (by decide) rfl ?_
        refine n_aload_n O dX2_allSoBetween_18 rfl ?_
        refine t_arr_ea O hN hj2 fl_X2_26 dX2_allSoBetween_19 ?_
        refine n_iload O dX2_allSoBetween_22 rfl ?_
        refine t_ld_ea O hN hj2 (by omega) (by omega) dX2_allSoBetween_24 ?_
        refine n_aload_n O dX2_allSoBetween_25 rfl ?_
        refine t_arr_ea O hN hj1 fl_X2_26 dX2_allSoBetween_26 ?_
        refine n_iload O dX2_allSoBetween_29 rfl ?_
        refine t_ld_ea O hN hj1 (by omega) (by omega) dX2_allSoBetween_31 ?_
        refine G_st (st' := .int (iI (qea (c.1 j1) (wh i))) :: .int (iI (qea (c.1 j2) (wh i))) :: _) rfl ?_
        refine r_isub O dX2_allSoBetween_32 ?_
        refine n_aload_n O dX2_allSoBetween_33 rfl ?_
        refine V_get_mu O hN fl_X2_15 dX2_allSoBetween_34 ?_
        refine n_iload_n O dX2_allSoBetween_37 rfl ?_
        refine V_ld_mu O hN (by omega) (by omega) dX2_allSoBetween_38 ?_
        refine r_icmp_eq (tgt := 44) O hb1 hb2 dX2_allSoBetween_39 (by decide) (fun hc39 => ?_) (fun hc39 => ?_)
        · skip
          refine n_iinc O dX2_allSoBetween_44 (by decide) rfl rfl ?_
          refine r_goto (tgt := 2) O dX2_allSoBetween_47 (by decide) ?_
          exact G_chk (ih2 _ (by omega) (i + 1) ⟨by omega, fun k h0 h1 => by by_cases e : k = i; (rw [e]; exact hc39); exact hq k h0 (by omega)⟩ rfl) (zsc rfl (zsc rfl (zsc rfl (zsc rfl zsn))))
        · skip
          refine r_iconst O dX2_allSoBetween_42 ?_
          exact hE _ _ _ _ dX2_allSoBetween_43 (nar01 (by omega)) (Or.inr ⟨fun h => hc39 (h i (by omega) (by omega)), rfl, rfl⟩)
  exact G_chk (L2 _ 0 ⟨by omega, fun k h0 h1 => by omega⟩ rfl) (zsc rfl (zsc rfl (zsc rfl (zsc rfl zsn))))
set_option maxHeartbeats 4000000 in
theorem C_X0_clear_U {K : zK} (hI : zInj K) (hN : kN K = 85) (c : CS) (pm : Int → Nat) (my : Int)  : zCv K yX0_clear cX0_clear 1 0 [.ref (kad K 9)] (layC K (wU c (pm, my))) (fun u => u = layC K (wU c (pm, 0))) := by
  refine zCv_in hI (by decide +kernel) (Nat.le_of_ble_eq_true rfl) (fun X O hE => ?_)
  refine n_aload_n O dX0_clear_0 rfl ?_
  refine r_iconst O dX0_clear_1 ?_
  refine U_put_my O hN fl_X0_22 dX0_clear_2 ?_
  exact hE _ _ _ dX0_clear_5 rfl
set_option maxHeartbeats 4000000 in
theorem C_X0_dropLowest {K : zK} (hI : zInj K) (hN : kN K = 85) (c : CS) (pm : Int → Nat) (my : Int) (hp : ∀ i : Int, 0 ≤ i → i < 8 → pm i < 12)  : zCv K yX0_dropLowest cX0_dropLowest 3 0 [.ref (kad K 9)] (layC K (wU c (pm, my))) (fun u => ∃ g : Int → Nat, (∀ i : Int, 0 ≤ i → i < 7 → g i = pm (i + 1)) ∧ g 7 = pm 0 ∧ u = layC K (wU c (g, 7))) := by
  have hp0 := hp 0 (by decide) (by decide)
  refine zCv_in hI (by decide +kernel) (Nat.le_of_ble_eq_true rfl) (fun X O hE => ?_)
  refine n_aload_n O dX0_dropLowest_0 rfl ?_
  refine U_get_pm O hN fl_X0_15 dX0_dropLowest_1 ?_
  refine r_iconst O dX0_dropLowest_4 ?_
  refine U_ld_pm O hN (by omega) (by omega) dX0_dropLowest_5 ?_
  refine n_astore_n O dX0_dropLowest_6 (by decide) rfl ?_
  refine r_iconst O dX0_dropLowest_7 ?_
  refine n_istore_n O dX0_dropLowest_8 (by decide) rfl ?_
  have L9 : ∀ (zk : Nat) (k : Int) (g : Int → Nat), ((1 ≤ k ∧ k ≤ 8) ∧ (∀ i : Int, 0 ≤ i → i < k - 1 → g i = pm (i + 1)) ∧ (∀ i : Int, k ≤ i + 0 → g i = pm i)) → (8 - k).toNat = zk → G K X 3 9 [(0, .ref (kad K 9)), (1, .ref (kad K (6 * pm 0 + 13))), (2, .int (iI k))] [] (layC K (wU c (g, my))) := by
    intro zk
    induction zk using Nat.strongRecOn with
    | ind zk ih9 =>
      intro k g hinv hk
      obtain ⟨hk0, hq1, hq2⟩ := hinv
      refine n_iload_n O dX0_dropLowest_9 rfl ?_
      refine n_aload_n O dX0_dropLowest_10 rfl ?_
      refine U_get_pm O hN fl_X0_15 dX0_dropLowest_11 ?_
      refine U_len_pm O hN dX0_dropLowest_14 ?_
      refine r_icmp_ge (tgt := 38) O ⟨by omega, by omega⟩ ⟨by omega, by omega⟩ dX0_dropLowest_15 (by decide) (fun hc15 => ?_) (fun hc15 => ?_)
      · skip
        refine n_aload_n O dX0_dropLowest_38 rfl ?_
        refine n_aload_n O dX0_dropLowest_39 rfl ?_
        refine U_get_pm O hN fl_X0_15 dX0_dropLowest_40 ?_
        refine U_len_pm O hN dX0_dropLowest_43 ?_
        refine r_iconst O dX0_dropLowest_44 ?_
        refine r_isub O dX0_dropLowest_45 ?_
        refine U_put_my O hN fl_X0_22 dX0_dropLowest_46 ?_
        refine n_aload_n O dX0_dropLowest_49 rfl ?_
        refine U_get_pm O hN fl_X0_15 dX0_dropLowest_50 ?_
        refine n_aload_n O dX0_dropLowest_53 rfl ?_
        refine U_get_my O hN fl_X0_22 dX0_dropLowest_54 ?_
        refine n_aload_n O dX0_dropLowest_57 rfl ?_
        refine U_st_pm O hN hp0 (by omega) (by omega) dX0_dropLowest_58 ?_
        exact hE _ _ _ dX0_dropLowest_59 ⟨_, fun i h0 h1 => by unfold uN'; rw [if_neg (by omega)]; exact hq1 i h0 (by omega), by unfold uN'; rw [if_pos (by omega)], rfl⟩
      · skip
        have hgk : g k < 12 := by rw [hq2 k (by omega)]; exact hp k (by omega) (by omega)
        refine n_aload_n O dX0_dropLowest_18 rfl ?_
        refine U_get_pm O hN fl_X0_15 dX0_dropLowest_19 ?_
        refine n_iload_n O dX0_dropLowest_22 rfl ?_
        refine r_iconst O dX0_dropLowest_23 ?_
        refine r_isub O dX0_dropLowest_24 ?_
        refine n_aload_n O dX0_dropLowest_25 rfl ?_
        refine U_get_pm O hN fl_X0_15 dX0_dropLowest_26 ?_
        refine n_iload_n O dX0_dropLowest_29 rfl ?_
        refine U_ld_pm O hN (by omega) (by omega) dX0_dropLowest_30 ?_
        refine U_st_pm O hN hgk (by omega) (by omega) dX0_dropLowest_31 ?_
        refine n_iinc O dX0_dropLowest_32 (by decide) rfl rfl ?_
        refine r_goto (tgt := 9) O dX0_dropLowest_35 (by decide) ?_
        exact G_chk (ih9 _ (by omega) (k + 1) _ ⟨by omega, fun i h0 h1 => by unfold uN'; by_cases e : i = k - 1; (rw [if_pos e, e]; (have e2 : k - 1 + 1 = k := by omega); rw [e2]; exact hq2 k (by omega)); (rw [if_neg e]; exact hq1 i h0 (by omega)), fun i h => by unfold uN'; rw [if_neg (by omega)]; exact hq2 i (by omega)⟩ rfl) (zsc rfl (zsc rfl (zsc rfl zsn)))
  exact G_chk (L9 _ 1 pm ⟨by omega, fun i h0 h1 => by omega, fun i h => rfl⟩ rfl) (zsc rfl (zsc rfl (zsc rfl zsn)))
set_option maxHeartbeats 4000000 in
theorem C_X0_put_U {K : zK} (hI : zInj K) (hN : kN K = 85) (c : CS) (pm : Int → Nat) (my : Int) (hp : ∀ i : Int, 0 ≤ i → i < 8 → pm i < 12) (j : Nat) (hj : j < 12) (hne : ∀ i : Int, 0 ≤ i → i < 8 → pm i ≠ j) (hmy : 0 ≤ my ∧ my ≤ 8) : zCv K yX0_put cX0_put 2 2 [.ref (kad K 9), .ref (kad K (6 * j + 13))] (layC K (wU c (pm, my))) (fun u => ∃ (g : Int → Nat) (m : Int), ((my < 8 ∧ g = pm ∧ m = my) ∨ (my = 8 ∧ m = 7 ∧ (∀ i : Int, 0 ≤ i → i < 7 → g i = pm (i + 1)) ∧ g 7 = pm 0)) ∧ u = layC K (wU (wS c (g m) (cpV (c.1 j) (c.1 (g m)))) (g, m + 1))) := by
  refine zCv_in hI (by decide +kernel) (Nat.le_of_ble_eq_true rfl) (fun X O hE => ?_)
  have L16 : ∀ (g : Int → Nat) (m : Int), ((0 ≤ m ∧ m < 8) ∧ (g m < 12 ∧ j ≠ g m) ∧ ((my < 8 ∧ g = pm ∧ m = my) ∨ (my = 8 ∧ m = 7 ∧ (∀ i : Int, 0 ≤ i → i < 7 → g i = pm (i + 1)) ∧ g 7 = pm 0))) → G K X 2 16 [(0, .ref (kad K 9)), (1, .ref (kad K (6 * j + 13)))] [] (layC K (wU c (g, m))) := by
    intro g m hinv
    obtain ⟨hm, hgm, hq⟩ := hinv
    refine n_aload_n O dX0_put_16 rfl ?_
    refine U_get_pm O hN fl_X0_15 dX0_put_17 ?_
    refine n_aload_n O dX0_put_20 rfl ?_
    refine U_get_my O hN fl_X0_22 dX0_put_21 ?_
    refine U_ld_pm O hN (by omega) (by omega) dX0_put_24 ?_
    refine n_aload_n O dX0_put_25 rfl ?_
    refine r_callV1v O (E_X3_takeOver hI hN (wU c (g, m)) (g m) hgm.1 j hj hgm.2) q_X0_29 (by rw [hN]; omega) (lay_j0 K _ _) rfl rfl (by decide) (by decide) (Nat.le_of_ble_eq_true rfl) dX0_put_26 (fun zu26 hz26 => ?_)
    obtain rfl := hz26
    refine G_ct (ct' := layC K (wU (wS c (g m) (cpV (c.1 j) (c.1 (g m)))) (g, m))) rfl ?_
    refine n_aload_n O dX0_put_29 rfl ?_
    refine r_dup O rfl dX0_put_30 ?_
    refine U_get_my O hN fl_X0_22 dX0_put_31 ?_
    refine r_iconst O dX0_put_34 ?_
    refine r_iadd O dX0_put_35 ?_
    refine U_put_my O hN fl_X0_22 dX0_put_36 ?_
    exact hE _ _ _ dX0_put_39 ⟨g, m, hq, rfl⟩
  refine n_aload_n O dX0_put_0 rfl ?_
  refine U_get_my O hN fl_X0_22 dX0_put_1 ?_
  refine n_aload_n O dX0_put_4 rfl ?_
  refine U_get_pm O hN fl_X0_15 dX0_put_5 ?_
  refine U_len_pm O hN dX0_put_8 ?_
  refine r_icmp_lt (tgt := 16) O ⟨by omega, by omega⟩ ⟨by omega, by omega⟩ dX0_put_9 (by decide) (fun hc9 => ?_) (fun hc9 => ?_)
  · skip
    exact G_chk (L16 _ _ ⟨by omega, ⟨hp my (by omega) (by omega), fun e => hne my (by omega) (by omega) e.symm⟩, Or.inl ⟨by omega, rfl, rfl⟩⟩) (zsc rfl (zsc rfl zsn))
  · skip
    refine n_aload_n O dX0_put_12 rfl ?_
    refine r_callV0v O (C_X0_dropLowest hI hN _ _ _ hp) q_X0_26 (by rw [hN]; decide) (fs := _) rfl rfl rfl (by decide) (by decide) (Nat.le_of_ble_eq_true rfl) dX0_put_13 (fun zu13 hz13 => ?_)
    obtain ⟨g, hg, hg7, rfl⟩ := hz13
    exact G_chk (L16 _ _ ⟨by omega, ⟨by rw [hg7]; exact hp 0 (by decide) (by decide), fun e => by rw [hg7] at e; exact hne 0 (by decide) (by decide) e.symm⟩, Or.inr ⟨by omega, rfl, hg, hg7⟩⟩) (zsc rfl (zsc rfl zsn))
set_option maxHeartbeats 4000000 in
theorem C_X0_takeLast_U {K : zK} (hI : zInj K) (hN : kN K = 85) (c : CS) (pm : Int → Nat) (my : Int) (hp : ∀ i : Int, 0 ≤ i → i < 8 → pm i < 12) (j : Nat) (hj : j < 12) (hne : ∀ i : Int, 0 ≤ i → i < 8 → pm i ≠ j) (hmy : 0 ≤ my ∧ my ≤ 8)  : zCi K yX0_takeLast cX0_takeLast 2 (some .boolean) 2 [.ref (kad K 9), .ref (kad K (6 * j + 13))] (layC K (wU c (pm, my))) (fun z u => (1 ≤ my ∧ z = 1 ∧ u = layC K (wU (wS c j (cpV (c.1 (pm (my - 1))) (c.1 j))) (pm, my - 1))) ∨ (¬ 1 ≤ my ∧ z = 0 ∧ u = (layC K (wU c (pm, my))))) := by
  refine zCi_in hI (by decide +kernel) (Nat.le_of_ble_eq_true rfl) (fun X O hE => ?_)
  refine n_aload_n O dX0_takeLast_0 rfl ?_
  refine U_get_my O hN fl_X0_22 dX0_takeLast_1 ?_
  refine r_iconst O dX0_takeLast_4 ?_
  refine n_aload_n O dX0_takeLast_5 rfl ?_
  refine U_get_pm O hN fl_X0_15 dX0_takeLast_6 ?_
  refine U_len_pm O hN dX0_takeLast_9 ?_
  refine r_callN3i O (C_X5_isOutside hI _ _ _ _ ⟨by omega, by omega⟩ ⟨by omega, by omega⟩ ⟨by omega, by omega⟩) q_X0_33 (by decide) (by decide) (Nat.le_of_ble_eq_true rfl) dX0_takeLast_10 (fun zz10 zu10 hz10 => ?_)
  obtain ⟨hzo, rfl⟩ := hz10
  have hoo := outV_c hzo
  refine r_if_eq (tgt := 18) O ⟨by omega, by omega⟩ dX0_takeLast_13 (by decide) (fun hc13 => ?_) (fun hc13 => ?_)
  · skip
    refine n_aload_n O dX0_takeLast_18 rfl ?_
    refine r_dup O rfl dX0_takeLast_19 ?_
    refine U_get_my O hN fl_X0_22 dX0_takeLast_20 ?_
    refine r_iconst O dX0_takeLast_23 ?_
    refine r_isub O dX0_takeLast_24 ?_
    refine U_put_my O hN fl_X0_22 dX0_takeLast_25 ?_
    refine n_aload_n O dX0_takeLast_28 rfl ?_
    refine n_aload_n O dX0_takeLast_29 rfl ?_
    refine U_get_pm O hN fl_X0_15 dX0_takeLast_30 ?_
    refine n_aload_n O dX0_takeLast_33 rfl ?_
    refine U_get_my O hN fl_X0_22 dX0_takeLast_34 ?_
    refine U_ld_pm O hN (by omega) (by omega) dX0_takeLast_37 ?_
    refine r_callV1v O (E_X3_takeOver hI hN (wU c (pm, my - 1)) j hj (pm (my - 1)) (hp _ (by omega) (by omega)) (hne _ (by omega) (by omega))) q_X0_29 (by rw [hN]; omega) (lay_j0 K _ _) rfl rfl (by decide) (by decide) (Nat.le_of_ble_eq_true rfl) dX0_takeLast_38 (fun zu38 hz38 => ?_)
    obtain rfl := hz38
    refine r_iconst O dX0_takeLast_41 ?_
    exact hE _ _ _ _ dX0_takeLast_42 (nar01 (by omega)) (by first | exact Or.inr ⟨by omega, rfl, rfl⟩ | exact Or.inl ⟨by omega, rfl, rfl⟩)
  · skip
    refine r_iconst O dX0_takeLast_16 ?_
    exact hE _ _ _ _ dX0_takeLast_17 (nar01 (by omega)) (by first | exact Or.inr ⟨by omega, rfl, rfl⟩ | exact Or.inl ⟨by omega, rfl, rfl⟩)
set_option maxHeartbeats 4000000 in
theorem C_X0_clear_P {K : zK} (hI : zInj K) (hN : kN K = 85) (c : CS) (pm : Int → Nat) (my : Int)  : zCv K yX0_clear cX0_clear 1 0 [.ref (kad K 11)] (layC K (wP c (pm, my))) (fun u => u = layC K (wP c (pm, 0))) := by
  refine zCv_in hI (by decide +kernel) (Nat.le_of_ble_eq_true rfl) (fun X O hE => ?_)
  refine n_aload_n O dX0_clear_0 rfl ?_
  refine r_iconst O dX0_clear_1 ?_
  refine P_put_my O hN fl_X0_22 dX0_clear_2 ?_
  exact hE _ _ _ dX0_clear_5 rfl
set_option maxHeartbeats 4000000 in
theorem C_X0_put_P {K : zK} (hI : zInj K) (hN : kN K = 85) (c : CS) (pm : Int → Nat) (my : Int) (hp : ∀ i : Int, 0 ≤ i → i < 2 → pm i < 12) (j : Nat) (hj : j < 12) (hne : ∀ i : Int, 0 ≤ i → i < 2 → pm i ≠ j) (hmy : 0 ≤ my ∧ my < 2) : zCv K yX0_put cX0_put 2 2 [.ref (kad K 11), .ref (kad K (6 * j + 13))] (layC K (wP c (pm, my))) (fun u => u = layC K (wP (wS c (pm my) (cpV (c.1 j) (c.1 (pm my)))) (pm, my + 1))) := by
  refine zCv_in hI (by decide +kernel) (Nat.le_of_ble_eq_true rfl) (fun X O hE => ?_)
  have L16 : ∀ (g : Int → Nat) (m : Int), ((0 ≤ m ∧ m < 2) ∧ (g m < 12 ∧ j ≠ g m) ∧ (g = pm ∧ m = my)) → G K X 2 16 [(0, .ref (kad K 11)), (1, .ref (kad K (6 * j + 13)))] [] (layC K (wP c (g, m))) := by
    intro g m hinv
    obtain ⟨hm, hgm, hq⟩ := hinv
    refine n_aload_n O dX0_put_16 rfl ?_
    refine P_get_pm O hN fl_X0_15 dX0_put_17 ?_
    refine n_aload_n O dX0_put_20 rfl ?_
    refine P_get_my O hN fl_X0_22 dX0_put_21 ?_
    refine P_ld_pm O hN (by omega) (by omega) dX0_put_24 ?_
    refine n_aload_n O dX0_put_25 rfl ?_
    refine r_callV1v O (E_X3_takeOver hI hN (wP c (g, m)) (g m) hgm.1 j hj hgm.2) q_X0_29 (by rw [hN]; omega) (lay_j0 K _ _) rfl rfl (by decide) (by decide) (Nat.le_of_ble_eq_true rfl) dX0_put_26 (fun zu26 hz26 => ?_)
    obtain rfl := hz26
    refine G_ct (ct' := layC K (wP (wS c (g m) (cpV (c.1 j) (c.1 (g m)))) (g, m))) rfl ?_
    refine n_aload_n O dX0_put_29 rfl ?_
    refine r_dup O rfl dX0_put_30 ?_
    refine P_get_my O hN fl_X0_22 dX0_put_31 ?_
    refine r_iconst O dX0_put_34 ?_
    refine r_iadd O dX0_put_35 ?_
    refine P_put_my O hN fl_X0_22 dX0_put_36 ?_
    exact hE _ _ _ dX0_put_39 (by obtain ⟨rfl, rfl⟩ := hq; rfl)
  refine n_aload_n O dX0_put_0 rfl ?_
  refine P_get_my O hN fl_X0_22 dX0_put_1 ?_
  refine n_aload_n O dX0_put_4 rfl ?_
  refine P_get_pm O hN fl_X0_15 dX0_put_5 ?_
  refine P_len_pm O hN dX0_put_8 ?_
  refine r_icmp_lt (tgt := 16) O ⟨by omega, by omega⟩ ⟨by omega, by omega⟩ dX0_put_9 (by decide) (fun hc9 => ?_) (fun hc9 => ?_)
  · skip
    exact G_chk (L16 _ _ ⟨by omega, ⟨hp my (by omega) (by omega), fun e => hne my (by omega) (by omega) e.symm⟩, rfl, rfl⟩) (zsc rfl (zsc rfl zsn))
  · skip
    exfalso; omega
set_option maxHeartbeats 4000000 in
theorem C_X0_takeLast_P {K : zK} (hI : zInj K) (hN : kN K = 85) (c : CS) (pm : Int → Nat) (my : Int) (hp : ∀ i : Int, 0 ≤ i → i < 2 → pm i < 12) (j : Nat) (hj : j < 12) (hne : ∀ i : Int, 0 ≤ i → i < 2 → pm i ≠ j) (hmy : 0 ≤ my ∧ my ≤ 2)  : zCi K yX0_takeLast cX0_takeLast 2 (some .boolean) 2 [.ref (kad K 11), .ref (kad K (6 * j + 13))] (layC K (wP c (pm, my))) (fun z u => (1 ≤ my ∧ z = 1 ∧ u = layC K (wP (wS c j (cpV (c.1 (pm (my - 1))) (c.1 j))) (pm, my - 1))) ∨ (¬ 1 ≤ my ∧ z = 0 ∧ u = (layC K (wP c (pm, my))))) := by
  refine zCi_in hI (by decide +kernel) (Nat.le_of_ble_eq_true rfl) (fun X O hE => ?_)
  refine n_aload_n O dX0_takeLast_0 rfl ?_
  refine P_get_my O hN fl_X0_22 dX0_takeLast_1 ?_
  refine r_iconst O dX0_takeLast_4 ?_
  refine n_aload_n O dX0_takeLast_5 rfl ?_
  refine P_get_pm O hN fl_X0_15 dX0_takeLast_6 ?_
  refine P_len_pm O hN dX0_takeLast_9 ?_
  refine r_callN3i O (C_X5_isOutside hI _ _ _ _ ⟨by omega, by omega⟩ ⟨by omega, by omega⟩ ⟨by omega, by omega⟩) q_X0_33 (by decide) (by decide) (Nat.le_of_ble_eq_true rfl) dX0_takeLast_10 (fun zz10 zu10 hz10 => ?_)
  obtain ⟨hzo, rfl⟩ := hz10
  have hoo := outV_c hzo
  refine r_if_eq (tgt := 18) O ⟨by omega, by omega⟩ dX0_takeLast_13 (by decide) (fun hc13 => ?_) (fun hc13 => ?_)
  · skip
    refine n_aload_n O dX0_takeLast_18 rfl ?_
    refine r_dup O rfl dX0_takeLast_19 ?_
    refine P_get_my O hN fl_X0_22 dX0_takeLast_20 ?_
    refine r_iconst O dX0_takeLast_23 ?_
    refine r_isub O dX0_takeLast_24 ?_
    refine P_put_my O hN fl_X0_22 dX0_takeLast_25 ?_
    refine n_aload_n O dX0_takeLast_28 rfl ?_
    refine n_aload_n O dX0_takeLast_29 rfl ?_
    refine P_get_pm O hN fl_X0_15 dX0_takeLast_30 ?_
    refine n_aload_n O dX0_takeLast_33 rfl ?_
    refine P_get_my O hN fl_X0_22 dX0_takeLast_34 ?_
    refine P_ld_pm O hN (by omega) (by omega) dX0_takeLast_37 ?_
    refine r_callV1v O (E_X3_takeOver hI hN (wP c (pm, my - 1)) j hj (pm (my - 1)) (hp _ (by omega) (by omega)) (hne _ (by omega) (by omega))) q_X0_29 (by rw [hN]; omega) (lay_j0 K _ _) rfl rfl (by decide) (by decide) (Nat.le_of_ble_eq_true rfl) dX0_takeLast_38 (fun zu38 hz38 => ?_)
    obtain rfl := hz38
    refine r_iconst O dX0_takeLast_41 ?_
    exact hE _ _ _ _ dX0_takeLast_42 (nar01 (by omega)) (by first | exact Or.inr ⟨by omega, rfl, rfl⟩ | exact Or.inl ⟨by omega, rfl, rfl⟩)
  · skip
    refine r_iconst O dX0_takeLast_16 ?_
    exact hE _ _ _ _ dX0_takeLast_17 (nar01 (by omega)) (by first | exact Or.inr ⟨by omega, rfl, rfl⟩ | exact Or.inl ⟨by omega, rfl, rfl⟩)
set_option maxHeartbeats 4000000 in
theorem C_X4_clear {K : zK} (hI : zInj K) (hN : kN K = 85) (c : CS) (lt nu : Int → Int) (le : Int)  : zCv K yX4_clear cX4_clear 1 0 [.ref (kad K 1)] (layC K (wT c (lt, nu, le))) (fun u => u = layC K (wT c (lt, nu, 0))) := by
  refine zCv_in hI (by decide +kernel) (Nat.le_of_ble_eq_true rfl) (fun X O hE => ?_)
  refine n_aload_n O dX4_clear_0 rfl ?_
  refine r_iconst O dX4_clear_1 ?_
  refine T_put_le O hN fl_X4_19 dX4_clear_2 ?_
  exact hE _ _ _ dX4_clear_5 rfl
set_option maxHeartbeats 4000000 in
theorem C_X4_append {K : zK} (hI : zInj K) (hN : kN K = 85) (c : CS) (lt nu : Int → Int) (le : Int) (ht : okT lt le) (x : Int) (hx : 32 ≤ x ∧ x ≤ 126) : zCi K yX4_append cX4_append 2 (some .boolean) 0 [.ref (kad K 1), .int (iI x)] (layC K (wT c (lt, nu, le))) (fun z u => (le < 200 ∧ z = 1 ∧ u = layC K (wT c (uI lt le x, nu, le + 1))) ∨ (le = 200 ∧ z = 0 ∧ u = (layC K (wT c (lt, nu, le))))) := by
  have hle := ht.1
  refine zCi_in hI (by decide +kernel) (Nat.le_of_ble_eq_true rfl) (fun X O hE => ?_)
  refine n_aload_n O dX4_append_0 rfl ?_
  refine T_get_le O hN fl_X4_19 dX4_append_1 ?_
  refine r_if_lt (tgt := 19) O ⟨by omega, by omega⟩ dX4_append_4 (by decide) (fun hc4 => ?_) (fun hc4 => ?_)
  · skip
    refine r_iconst O dX4_append_19 ?_
    exact hE _ _ _ _ dX4_append_20 (nar01 (by omega)) (by first | exact Or.inr ⟨by omega, rfl, rfl⟩ | exact Or.inl ⟨by omega, rfl, rfl⟩)
  · skip
    refine n_aload_n O dX4_append_7 rfl ?_
    refine T_get_le O hN fl_X4_19 dX4_append_8 ?_
    refine n_aload_n O dX4_append_11 rfl ?_
    refine T_get_lt O hN fl_X4_9 dX4_append_12 ?_
    refine T_len_lt O hN dX4_append_15 ?_
    refine r_icmp_lt (tgt := 21) O ⟨by omega, by omega⟩ ⟨by omega, by omega⟩ dX4_append_16 (by decide) (fun hc16 => ?_) (fun hc16 => ?_)
    · skip
      refine n_aload_n O dX4_append_21 rfl ?_
      refine T_get_lt O hN fl_X4_9 dX4_append_22 ?_
      refine n_aload_n O dX4_append_25 rfl ?_
      refine T_get_le O hN fl_X4_19 dX4_append_26 ?_
      refine n_iload_n O dX4_append_29 rfl ?_
      refine T_st_lt O hN (by omega) (by omega) (nar_ch2 (by omega) (by omega)) dX4_append_30 ?_
      refine n_aload_n O dX4_append_31 rfl ?_
      refine r_dup O rfl dX4_append_32 ?_
      refine T_get_le O hN fl_X4_19 dX4_append_33 ?_
      refine r_iconst O dX4_append_36 ?_
      refine r_iadd O dX4_append_37 ?_
      refine T_put_le O hN fl_X4_19 dX4_append_38 ?_
      refine r_iconst O dX4_append_41 ?_
      exact hE _ _ _ _ dX4_append_42 (nar01 (by omega)) (by first | exact Or.inr ⟨by omega, rfl, rfl⟩ | exact Or.inl ⟨by omega, rfl, rfl⟩)
    · skip
      refine r_iconst O dX4_append_19 ?_
      exact hE _ _ _ _ dX4_append_20 (nar01 (by omega)) (by first | exact Or.inr ⟨by omega, rfl, rfl⟩ | exact Or.inl ⟨by omega, rfl, rfl⟩)
set_option maxHeartbeats 4000000 in
theorem C_X4_at {K : zK} (hI : zInj K) (hN : kN K = 85) (c : CS) (lt nu : Int → Int) (le : Int) (ht : okT lt le) (p : Int) (hp : zB p) : zCi K yX4_at cX4_at 2 (some .char) 0 [.ref (kad K 1), .int (iI p)] (layC K (wT c (lt, nu, le))) (fun z u => z = atT lt le p ∧ u = (layC K (wT c (lt, nu, le)))) := by
  have hle := ht.1
  obtain ⟨hp1, hp2⟩ := id hp
  refine zCi_in hI (by decide +kernel) (Nat.le_of_ble_eq_true rfl) (fun X O hE => ?_)
  refine n_iload_n O dX4_at_0 rfl ?_
  refine r_if_lt (tgt := 21) O ⟨by omega, by omega⟩ dX4_at_1 (by decide) (fun hc1 => ?_) (fun hc1 => ?_)
  · skip
    refine r_iconst O dX4_at_21 ?_
    exact hE _ _ _ _ dX4_at_22 (nar_ch (by first | omega | (have := ht.2 p (by omega) (by omega); omega)) (by first | omega | (have := ht.2 p (by omega) (by omega); omega))) ⟨by unfold atT; first | rw [if_neg (by omega)] | rw [if_pos (by omega)], rfl⟩
  · skip
    refine n_iload_n O dX4_at_4 rfl ?_
    refine n_aload_n O dX4_at_5 rfl ?_
    refine T_get_le O hN fl_X4_19 dX4_at_6 ?_
    refine r_icmp_ge (tgt := 21) O ⟨by omega, by omega⟩ ⟨by omega, by omega⟩ dX4_at_9 (by decide) (fun hc9 => ?_) (fun hc9 => ?_)
    · skip
      refine r_iconst O dX4_at_21 ?_
      exact hE _ _ _ _ dX4_at_22 (nar_ch (by first | omega | (have := ht.2 p (by omega) (by omega); omega)) (by first | omega | (have := ht.2 p (by omega) (by omega); omega))) ⟨by unfold atT; first | rw [if_neg (by omega)] | rw [if_pos (by omega)], rfl⟩
    · skip
      refine n_iload_n O dX4_at_12 rfl ?_
      refine n_aload_n O dX4_at_13 rfl ?_
      refine T_get_lt O hN fl_X4_9 dX4_at_14 ?_
      refine T_len_lt O hN dX4_at_17 ?_
      refine r_icmp_lt (tgt := 23) O ⟨by omega, by omega⟩ ⟨by omega, by omega⟩ dX4_at_18 (by decide) (fun hc18 => ?_) (fun hc18 => ?_)
      · skip
        refine n_aload_n O dX4_at_23 rfl ?_
        refine T_get_lt O hN fl_X4_9 dX4_at_24 ?_
        refine n_iload_n O dX4_at_27 rfl ?_
        refine T_ld_lt O hN (by omega) (by omega) dX4_at_28 ?_
        exact hE _ _ _ _ dX4_at_29 (nar_ch (by first | omega | (have := ht.2 p (by omega) (by omega); omega)) (by first | omega | (have := ht.2 p (by omega) (by omega); omega))) ⟨by unfold atT; first | rw [if_neg (by omega)] | rw [if_pos (by omega)], rfl⟩
      · skip
        refine r_iconst O dX4_at_21 ?_
        exact hE _ _ _ _ dX4_at_22 (nar_ch (by first | omega | (have := ht.2 p (by omega) (by omega); omega)) (by first | omega | (have := ht.2 p (by omega) (by omega); omega))) ⟨by unfold atT; first | rw [if_neg (by omega)] | rw [if_pos (by omega)], rfl⟩
set_option maxHeartbeats 4000000 in
theorem C_X4_isFigure {K : zK} (hI : zInj K) (hN : kN K = 85) (c : CS) (lt nu : Int → Int) (le : Int) (ht : okT lt le) (p : Int) (hp : zB p) : zCi K yX4_isFigure cX4_isFigure 2 (some .boolean) 1 [.ref (kad K 1), .int (iI p)] (layC K (wT c (lt, nu, le))) (fun z u => z = figI lt le p ∧ u = (layC K (wT c (lt, nu, le)))) := by
  obtain ⟨hp1, hp2⟩ := id hp
  refine zCi_in hI (by decide +kernel) (Nat.le_of_ble_eq_true rfl) (fun X O hE => ?_)
  refine n_aload_n O dX4_isFigure_0 rfl ?_
  refine n_iload_n O dX4_isFigure_1 rfl ?_
  refine r_callV1i O (C_X4_at hI hN _ _ _ _ ht _ ⟨by omega, by omega⟩) q_X4_32 (by rw [hN]; decide) (fs := _) rfl rfl rfl (by decide) (by decide) (Nat.le_of_ble_eq_true rfl) dX4_isFigure_2 (fun zz2 zu2 hz2 => ?_)
  obtain ⟨rfl, rfl⟩ := hz2
  have hab := atT_b ht p
  refine r_bipush O (by decide +kernel) dX4_isFigure_5 ?_
  refine r_icmp_lt (tgt := 24) O ⟨by omega, by omega⟩ ⟨by omega, by omega⟩ dX4_isFigure_7 (by decide) (fun hc7 => ?_) (fun hc7 => ?_)
  · skip
    refine r_iconst O dX4_isFigure_24 ?_
    exact hE _ _ _ _ dX4_isFigure_25 (nar01 (by omega)) ⟨by unfold figI; first | rw [if_pos (by omega)] | rw [if_neg (by omega)], rfl⟩
  · skip
    refine n_aload_n O dX4_isFigure_10 rfl ?_
    refine n_iload_n O dX4_isFigure_11 rfl ?_
    refine r_callV1i O (C_X4_at hI hN _ _ _ _ ht _ ⟨by omega, by omega⟩) q_X4_32 (by rw [hN]; decide) (fs := _) rfl rfl rfl (by decide) (by decide) (Nat.le_of_ble_eq_true rfl) dX4_isFigure_12 (fun zz12 zu12 hz12 => ?_)
    obtain ⟨rfl, rfl⟩ := hz12
    have hab := atT_b ht p
    refine r_bipush O (by decide +kernel) dX4_isFigure_15 ?_
    refine r_icmp_gt (tgt := 24) O ⟨by omega, by omega⟩ ⟨by omega, by omega⟩ dX4_isFigure_17 (by decide) (fun hc17 => ?_) (fun hc17 => ?_)
    · skip
      refine r_iconst O dX4_isFigure_24 ?_
      exact hE _ _ _ _ dX4_isFigure_25 (nar01 (by omega)) ⟨by unfold figI; first | rw [if_pos (by omega)] | rw [if_neg (by omega)], rfl⟩
    · skip
      refine r_iconst O dX4_isFigure_20 ?_
      refine r_goto (tgt := 25) O dX4_isFigure_21 (by decide) ?_
      exact hE _ _ _ _ dX4_isFigure_25 (nar01 (by omega)) ⟨by unfold figI; first | rw [if_pos (by omega)] | rw [if_neg (by omega)], rfl⟩
set_option maxHeartbeats 4000000 in
theorem C_X4_figure {K : zK} (hI : zInj K) (hN : kN K = 85) (c : CS) (lt nu : Int → Int) (le : Int) (ht : okT lt le) (p : Int) (hp : zB p) : zCi K yX4_figure cX4_figure 2 (some .int) 1 [.ref (kad K 1), .int (iI p)] (layC K (wT c (lt, nu, le))) (fun z u => z = atT lt le p - 48 ∧ u = (layC K (wT c (lt, nu, le)))) := by
  obtain ⟨hp1, hp2⟩ := id hp
  refine zCi_in hI (by decide +kernel) (Nat.le_of_ble_eq_true rfl) (fun X O hE => ?_)
  refine n_aload_n O dX4_figure_0 rfl ?_
  refine n_iload_n O dX4_figure_1 rfl ?_
  refine r_callV1i O (C_X4_at hI hN _ _ _ _ ht _ ⟨by omega, by omega⟩) q_X4_32 (by rw [hN]; decide) (fs := _) rfl rfl rfl (by decide) (by decide) (Nat.le_of_ble_eq_true rfl) dX4_figure_2 (fun zz2 zu2 hz2 => ?_)
  obtain ⟨rfl, rfl⟩ := hz2
  have hab := atT_b ht p
  refine r_bipush O (by decide +kernel) dX4_figure_5 ?_
  refine r_isub O dX4_figure_7 ?_
  exact hE _ _ _ _ dX4_figure_8 rfl ⟨rfl, rfl⟩
set_option maxHeartbeats 4000000 in
theorem C_X4_figuresAt {K : zK} (hI : zInj K) (hN : kN K = 85) (c : CS) (lt nu : Int → Int) (le : Int) (ht : okT lt le) (p : Int) (hp : -1000 ≤ p ∧ p ≤ 1000) : zCi K yX4_figuresAt cX4_figuresAt 2 (some .int) 2 [.ref (kad K 1), .int (iI p)] (layC K (wT c (lt, nu, le))) (fun z u => z = figsT lt le p ∧ u = (layC K (wT c (lt, nu, le)))) := by
  refine zCi_in hI (by decide +kernel) (Nat.le_of_ble_eq_true rfl) (fun X O hE => ?_)
  refine n_aload_n O dX4_figuresAt_0 rfl ?_
  refine n_iload_n O dX4_figuresAt_1 rfl ?_
  refine r_callV1i O (C_X4_isFigure hI hN _ _ _ _ ht _ ⟨by omega, by omega⟩) q_X4_65 (by rw [hN]; decide) (fs := _) rfl rfl rfl (by decide) (by decide) (Nat.le_of_ble_eq_true rfl) dX4_figuresAt_2 (fun zz2 zu2 hz2 => ?_)
  obtain ⟨rfl, rfl⟩ := hz2
  have hfc1 := figI_c lt le (p)
  refine r_if_ne (tgt := 10) O ⟨by omega, by omega⟩ dX4_figuresAt_5 (by decide) (fun hc5 => ?_) (fun hc5 => ?_)
  · skip
    refine n_aload_n O dX4_figuresAt_10 rfl ?_
    refine n_iload_n O dX4_figuresAt_11 rfl ?_
    refine r_iconst O dX4_figuresAt_12 ?_
    refine r_iadd O dX4_figuresAt_13 ?_
    refine r_callV1i O (C_X4_isFigure hI hN _ _ _ _ ht _ ⟨by omega, by omega⟩) q_X4_65 (by rw [hN]; decide) (fs := _) rfl rfl rfl (by decide) (by decide) (Nat.le_of_ble_eq_true rfl) dX4_figuresAt_14 (fun zz14 zu14 hz14 => ?_)
    obtain ⟨rfl, rfl⟩ := hz14
    have hfc2 := figI_c lt le (p + 1)
    refine r_if_eq (tgt := 24) O ⟨by omega, by omega⟩ dX4_figuresAt_17 (by decide) (fun hc17 => ?_) (fun hc17 => ?_)
    · skip
      refine r_iconst O dX4_figuresAt_24 ?_
      exact hE _ _ _ _ dX4_figuresAt_25 rfl ⟨by unfold figsT; first | (rw [if_neg (by omega)]; done) | (rw [if_pos (by omega), if_pos (by omega)]; done) | (rw [if_pos (by omega), if_neg (by omega)]; done), rfl⟩
    · skip
      refine r_iconst O dX4_figuresAt_20 ?_
      refine r_goto (tgt := 25) O dX4_figuresAt_21 (by decide) ?_
      exact hE _ _ _ _ dX4_figuresAt_25 rfl ⟨by unfold figsT; first | (rw [if_neg (by omega)]; done) | (rw [if_pos (by omega), if_pos (by omega)]; done) | (rw [if_pos (by omega), if_neg (by omega)]; done), rfl⟩
  · skip
    refine r_iconst O dX4_figuresAt_8 ?_
    exact hE _ _ _ _ dX4_figuresAt_9 rfl ⟨by unfold figsT; first | (rw [if_neg (by omega)]; done) | (rw [if_pos (by omega), if_pos (by omega)]; done) | (rw [if_pos (by omega), if_neg (by omega)]; done), rfl⟩
set_option maxHeartbeats 4000000 in
theorem C_X4_numbersBehind {K : zK} (hI : zInj K) (ct : zE) (x : Int) (hx : 0 ≤ x ∧ x ≤ 126) : zCi K yX4_numbersBehind cX4_numbersBehind 1 (some .int) 0 [.int (iI x)] ct (fun z u => z = ((manyT x : Nat) : Int) ∧ u = ct) := by
  refine zCi_in hI (by decide +kernel) (Nat.le_of_ble_eq_true rfl) (fun X O hE => ?_)
  refine n_iload_n O dX4_numbersBehind_0 rfl ?_
  refine r_bipush O (by decide +kernel) dX4_numbersBehind_1 ?_
  refine r_icmp_ne (tgt := 8) O ⟨by omega, by omega⟩ ⟨by omega, by omega⟩ dX4_numbersBehind_3 (by decide) (fun hc3 => ?_) (fun hc3 => ?_)
  · skip
    refine n_iload_n O dX4_numbersBehind_8 rfl ?_
    refine r_bipush O (by decide +kernel) dX4_numbersBehind_9 ?_
    refine r_icmp_ne (tgt := 16) O ⟨by omega, by omega⟩ ⟨by omega, by omega⟩ dX4_numbersBehind_11 (by decide) (fun hc11 => ?_) (fun hc11 => ?_)
    · skip
      refine n_iload_n O dX4_numbersBehind_16 rfl ?_
      refine r_bipush O (by decide +kernel) dX4_numbersBehind_17 ?_
      refine r_icmp_eq (tgt := 28) O ⟨by omega, by omega⟩ ⟨by omega, by omega⟩ dX4_numbersBehind_19 (by decide) (fun hc19 => ?_) (fun hc19 => ?_)
      · skip
        refine r_iconst O dX4_numbersBehind_28 ?_
        refine r_goto (tgt := 33) O dX4_numbersBehind_29 (by decide) ?_
        exact hE _ _ _ _ dX4_numbersBehind_33 rfl ⟨by unfold manyT; split <;> (try split) <;> (try split) <;> omega, rfl⟩
      · skip
        refine n_iload_n O dX4_numbersBehind_22 rfl ?_
        refine r_bipush O (by decide +kernel) dX4_numbersBehind_23 ?_
        refine r_icmp_ne (tgt := 32) O ⟨by omega, by omega⟩ ⟨by omega, by omega⟩ dX4_numbersBehind_25 (by decide) (fun hc25 => ?_) (fun hc25 => ?_)
        · skip
          refine r_iconst O dX4_numbersBehind_32 ?_
          exact hE _ _ _ _ dX4_numbersBehind_33 rfl ⟨by unfold manyT; split <;> (try split) <;> (try split) <;> omega, rfl⟩
        · skip
          refine r_iconst O dX4_numbersBehind_28 ?_
          refine r_goto (tgt := 33) O dX4_numbersBehind_29 (by decide) ?_
          exact hE _ _ _ _ dX4_numbersBehind_33 rfl ⟨by unfold manyT; split <;> (try split) <;> (try split) <;> omega, rfl⟩
    · skip
      refine r_iconst O dX4_numbersBehind_14 ?_
      exact hE _ _ _ _ dX4_numbersBehind_15 rfl ⟨by unfold manyT; split <;> (try split) <;> (try split) <;> omega, rfl⟩
  · skip
    refine r_iconst O dX4_numbersBehind_6 ?_
    exact hE _ _ _ _ dX4_numbersBehind_7 rfl ⟨by unfold manyT; split <;> (try split) <;> (try split) <;> omega, rfl⟩
set_option maxHeartbeats 4000000 in
theorem C_X4_readItem {K : zK} (hI : zInj K) (hN : kN K = 85) (c : CS) (lt nu : Int → Int) (le : Int) (ht : okT lt le) (hnu : okN nu) (p : Int) (hp : 0 ≤ p ∧ p ≤ 200) : zCi K yX4_readItem cX4_readItem 7 (some .int) 3 [.ref (kad K 1), .int (iI p)] (layC K (wT c (lt, nu, le))) (fun z u => ∃ nu1 : Int → Int, okN nu1 ∧ u = layC K (wT c (lt, nu1, le)) ∧ ((manyT (atT lt le p) = 0 ∧ z = -1) ∨ (manyT (atT lt le p) ≠ 0 ∧ z = endI lt le p ∧ (z ≠ -1 → ∀ k : Nat, k < manyT (atT lt le p) → nu1 (k : Int) = nuT lt le p k)))) := by
  have hle := ht.1
  refine zCi_in hI (by decide +kernel) (Nat.le_of_ble_eq_true rfl) (fun X O hE => ?_)
  refine n_aload_n O dX4_readItem_0 rfl ?_
  refine n_iload_n O dX4_readItem_1 rfl ?_
  refine r_callV1i O (C_X4_at hI hN _ _ _ _ ht _ ⟨by omega, by omega⟩) q_X4_32 (by rw [hN]; decide) (fs := _) rfl rfl rfl (by decide) (by decide) (Nat.le_of_ble_eq_true rfl) dX4_readItem_2 (fun zz2 zu2 hz2 => ?_)
  obtain ⟨rfl, rfl⟩ := hz2
  have hab := atT_b ht p
  refine r_callS1i O (C_X4_numbersBehind hI _ _ hab) q_X4_40 (by decide) (by decide) (Nat.le_of_ble_eq_true rfl) dX4_readItem_5 (fun zz5 zu5 hz5 => ?_)
  obtain ⟨rfl, rfl⟩ := hz5
  have hmb := manyT_b (atT lt le p)
  refine n_istore_n O dX4_readItem_8 (by decide) rfl ?_
  refine n_iload_n O dX4_readItem_9 rfl ?_
  refine r_iconst O dX4_readItem_10 ?_
  refine r_iadd O dX4_readItem_11 ?_
  refine n_istore_n O dX4_readItem_12 (by decide) rfl ?_
  refine r_iconst O dX4_readItem_13 ?_
  refine n_istore O dX4_readItem_14 (by decide) rfl ?_
  have L16 : ∀ (zk : Nat) (k : Nat) (q : Int) (nu1 : Int → Int), (k ≤ manyT (atT lt le p) ∧ plT lt le (manyT (atT lt le p)) p k = q ∧ q ≠ -1 ∧ okN nu1 ∧ ∀ m : Nat, m < k → nu1 (m : Int) = nuT lt le p m) → 4 - k = zk → G K X 7 16 [(0, .ref (kad K 1)), (1, .int (iI p)), (2, .int (iI (((manyT (atT lt le p)) : Nat) : Int))), (3, .int (iI q)), (4, .int (iI (k : Int)))] [] (layC K (wT c (lt, nu1, le))) := by
    intro zk
    induction zk using Nat.strongRecOn with
    | ind zk ih16 =>
      intro k q nu1 hinv hk
      obtain ⟨hk, hq, hq1, hn1, hn2⟩ := hinv
      have hpb := plT_b (lt := lt) (le := le) (many := (manyT (atT lt le p))) hp.1 k
      rw [hq] at hpb
      refine n_iload O dX4_readItem_16 rfl ?_
      refine n_iload_n O dX4_readItem_18 rfl ?_
      refine r_icmp_ge (tgt := 126) O ⟨by omega, by omega⟩ ⟨by omega, by omega⟩ dX4_readItem_19 (by decide) (fun hc19 => ?_) (fun hc19 => ?_)
      · skip
        refine n_iload_n O dX4_readItem_126 rfl ?_
        refine r_if_ne (tgt := 134) O ⟨by omega, by omega⟩ dX4_readItem_127 (by decide) (fun hc127 => ?_) (fun hc127 => ?_)
        · skip
          refine n_iload_n O dX4_readItem_134 rfl ?_
          exact hE _ _ _ _ dX4_readItem_135 rfl ⟨nu1, hn1, rfl, by first | exact Or.inl ⟨by omega, rfl⟩ | exact Or.inr ⟨by omega, by (have e : k = manyT (atT lt le p) := by omega); unfold endI; rw [← e, ← hq, ← e], fun _ m hm => hn2 m (by omega)⟩⟩
        · skip
          refine r_iconst O dX4_readItem_130 ?_
          refine r_goto (tgt := 135) O dX4_readItem_131 (by decide) ?_
          exact hE _ _ _ _ dX4_readItem_135 rfl ⟨nu1, hn1, rfl, by first | exact Or.inl ⟨by omega, rfl⟩ | exact Or.inr ⟨by omega, by (have e : k = manyT (atT lt le p) := by omega); unfold endI; rw [← e, ← hq, ← e], fun _ m hm => hn2 m (by omega)⟩⟩
      · skip
        refine n_iload O dX4_readItem_22 rfl ?_
        refine n_aload_n O dX4_readItem_24 rfl ?_
        refine T_get_nu O hN fl_X4_15 dX4_readItem_25 ?_
        refine T_len_nu O hN dX4_readItem_28 ?_
        refine r_icmp_ge (tgt := 126) O ⟨by omega, by omega⟩ ⟨by omega, by omega⟩ dX4_readItem_29 (by decide) (fun hc29 => ?_) (fun hc29 => ?_)
        · skip
          refine n_iload_n O dX4_readItem_126 rfl ?_
          refine r_if_ne (tgt := 134) O ⟨by omega, by omega⟩ dX4_readItem_127 (by decide) (fun hc127 => ?_) (fun hc127 => ?_)
          · skip
            refine n_iload_n O dX4_readItem_134 rfl ?_
            exact hE _ _ _ _ dX4_readItem_135 rfl ⟨nu1, hn1, rfl, by first | exact Or.inl ⟨by omega, rfl⟩ | exact Or.inr ⟨by omega, by (have e : k = manyT (atT lt le p) := by omega); unfold endI; rw [← e, ← hq, ← e], fun _ m hm => hn2 m (by omega)⟩⟩
          · skip
            refine r_iconst O dX4_readItem_130 ?_
            refine r_goto (tgt := 135) O dX4_readItem_131 (by decide) ?_
            exact hE _ _ _ _ dX4_readItem_135 rfl ⟨nu1, hn1, rfl, by first | exact Or.inl ⟨by omega, rfl⟩ | exact Or.inr ⟨by omega, by (have e : k = manyT (atT lt le p) := by omega); unfold endI; rw [← e, ← hq, ← e], fun _ m hm => hn2 m (by omega)⟩⟩
        · skip
          refine n_aload_n O dX4_readItem_32 rfl ?_
          refine n_iload_n O dX4_readItem_33 rfl ?_
          refine r_callV1i O (C_X4_figuresAt hI hN _ _ _ _ ht _ ⟨by omega, by omega⟩) q_X4_44 (by rw [hN]; decide) (fs := _) rfl rfl rfl (by decide) (by decide) (Nat.le_of_ble_eq_true rfl) dX4_readItem_34 (fun zz34 zu34 hz34 => ?_)
          obtain ⟨rfl, rfl⟩ := hz34
          have hfs := figsT_c lt le q
          have hvb := @valT_b lt le q
          have hff := figI_c lt le q
          refine n_istore O dX4_readItem_37 (by decide) rfl ?_
          refine n_iload O dX4_readItem_39 rfl ?_
          refine r_if_ne (tgt := 46) O ⟨by omega, by omega⟩ dX4_readItem_41 (by decide) (fun hc41 => ?_) (fun hc41 => ?_)
          · skip
            refine n_aload_n O dX4_readItem_46 rfl ?_
            refine T_get_nu O hN fl_X4_15 dX4_readItem_47 ?_
            refine n_iload O dX4_readItem_50 rfl ?_
            refine n_iload O dX4_readItem_52 rfl ?_
            refine r_iconst O dX4_readItem_54 ?_
            refine r_icmp_ne (tgt := 66) O ⟨by omega, by omega⟩ ⟨by omega, by omega⟩ dX4_readItem_55 (by decide) (fun hc55 => ?_) (fun hc55 => ?_)
            · skip
              refine r_bipush O (by decide +kernel) dX4_readItem_66 ?_
              refine n_aload_n O dX4_readItem_68 rfl ?_
              refine n_iload_n O dX4_readItem_69 rfl ?_
              refine r_callV1i O (C_X4_figure hI hN _ _ _ _ ht _ ⟨by omega, by omega⟩) q_X4_47 (by rw [hN]; decide) (fs := _) rfl rfl rfl (by decide) (by decide) (Nat.le_of_ble_eq_true rfl) dX4_readItem_70 (fun zz70 zu70 hz70 => ?_)
              obtain ⟨rfl, rfl⟩ := hz70
              refine r_imul O dX4_readItem_73 ?_
              refine n_aload_n O dX4_readItem_74 rfl ?_
              refine n_iload_n O dX4_readItem_75 rfl ?_
              refine r_iconst O dX4_readItem_76 ?_
              refine r_iadd O dX4_readItem_77 ?_
              refine r_callV1i O (C_X4_figure hI hN _ _ _ _ ht _ ⟨by omega, by omega⟩) q_X4_47 (by rw [hN]; decide) (fs := _) rfl rfl rfl (by decide) (by decide) (Nat.le_of_ble_eq_true rfl) dX4_readItem_78 (fun zz78 zu78 hz78 => ?_)
              obtain ⟨rfl, rfl⟩ := hz78
              refine r_iadd O dX4_readItem_81 ?_
              refine T_st_nu O hN (by omega) (by omega) dX4_readItem_82 ?_
              refine n_iload_n O dX4_readItem_83 rfl ?_
              refine n_iload O dX4_readItem_84 rfl ?_
              refine r_iadd O dX4_readItem_86 ?_
              refine n_istore_n O dX4_readItem_87 (by decide) rfl ?_
              refine n_iload O dX4_readItem_88 rfl ?_
              refine r_iconst O dX4_readItem_90 ?_
              refine r_iadd O dX4_readItem_91 ?_
              refine n_iload_n O dX4_readItem_92 rfl ?_
              refine r_icmp_ge (tgt := 101) O ⟨by omega, by omega⟩ ⟨by omega, by omega⟩ dX4_readItem_93 (by decide) (fun hc93 => ?_) (fun hc93 => ?_)
              · skip
                refine r_bipush O (by decide +kernel) dX4_readItem_101 ?_
                refine n_istore O dX4_readItem_103 (by decide) rfl ?_
                refine n_aload_n O dX4_readItem_105 rfl ?_
                refine n_iload_n O dX4_readItem_106 rfl ?_
                refine r_callV1i O (C_X4_at hI hN _ _ _ _ ht _ ⟨by omega, by omega⟩) q_X4_32 (by rw [hN]; decide) (fs := _) rfl rfl rfl (by decide) (by decide) (Nat.le_of_ble_eq_true rfl) dX4_readItem_107 (fun zz107 zu107 hz107 => ?_)
                obtain ⟨rfl, rfl⟩ := hz107
                have hab := atT_b ht (q + figsT lt le q)
                refine n_iload O dX4_readItem_110 rfl ?_
                refine r_icmp_eq (tgt := 117) O ⟨by omega, by omega⟩ ⟨by omega, by omega⟩ dX4_readItem_112 (by decide) (fun hc112 => ?_) (fun hc112 => ?_)
                · skip
                  refine n_iinc O dX4_readItem_117 (by decide) rfl rfl ?_
                  refine n_iinc O dX4_readItem_120 (by decide) rfl rfl ?_
                  refine r_goto (tgt := 16) O dX4_readItem_123 (by decide) ?_
                  have hvq : 0 ≤ valT lt le q ∧ valT lt le q ≤ 99 := hvb (by omega)
                  have hen : endT (manyT (atT lt le p)) k = 44 ∨ endT (manyT (atT lt le p)) k = 59 := by unfold endT; split <;> simp
                  have hnx : plT lt le (manyT (atT lt le p)) p (k + 1) = q + figsT lt le q + 1 := by show (if plT lt le (manyT (atT lt le p)) p k = -1 ∨ figsT lt le (plT lt le (manyT (atT lt le p)) p k) = 0 ∨ atT lt le (plT lt le (manyT (atT lt le p)) p k + figsT lt le (plT lt le (manyT (atT lt le p)) p k)) ≠ endT (manyT (atT lt le p)) k then -1 else plT lt le (manyT (atT lt le p)) p k + figsT lt le (plT lt le (manyT (atT lt le p)) p k) + 1) = _; rw [hq]; rw [if_neg (by unfold endT; split <;> omega)]
                  exact G_chk (ih16 _ (by omega) (k + 1) _ _ ⟨by omega, hnx, by omega, okN_up hn1 (by unfold valT; first | rw [if_pos (by omega)] | rw [if_neg (by omega)]) hvq, nuStep hq hn2 (by unfold valT; first | rw [if_pos (by omega)] | rw [if_neg (by omega)])⟩ rfl) (zsc rfl (zsc rfl (zsc rfl (zsc rfl (zsc rfl zsn)))))
                · skip
                  refine r_iconst O dX4_readItem_115 ?_
                  exact hE _ _ _ _ dX4_readItem_116 rfl ⟨_, okN_up hn1 (by unfold valT; first | rw [if_pos (by omega)] | rw [if_neg (by omega)]) (hvb (by omega)), rfl, Or.inr ⟨by omega, by (have hx : plT lt le (manyT (atT lt le p)) p (k + 1) = -1 := by show (if plT lt le (manyT (atT lt le p)) p k = -1 ∨ figsT lt le (plT lt le (manyT (atT lt le p)) p k) = 0 ∨ atT lt le (plT lt le (manyT (atT lt le p)) p k + figsT lt le (plT lt le (manyT (atT lt le p)) p k)) ≠ endT (manyT (atT lt le p)) k then -1 else _) = _; rw [hq]; rw [if_pos (by unfold endT; split <;> omega)]); exact (plT_m1 hx (by omega)).symm, fun h => absurd rfl h⟩⟩
              · skip
                refine r_bipush O (by decide +kernel) dX4_readItem_96 ?_
                refine r_goto (tgt := 103) O dX4_readItem_98 (by decide) ?_
                refine n_istore O dX4_readItem_103 (by decide) rfl ?_
                refine n_aload_n O dX4_readItem_105 rfl ?_
                refine n_iload_n O dX4_readItem_106 rfl ?_
                refine r_callV1i O (C_X4_at hI hN _ _ _ _ ht _ ⟨by omega, by omega⟩) q_X4_32 (by rw [hN]; decide) (fs := _) rfl rfl rfl (by decide) (by decide) (Nat.le_of_ble_eq_true rfl) dX4_readItem_107 (fun zz107 zu107 hz107 => ?_)
                obtain ⟨rfl, rfl⟩ := hz107
                have hab := atT_b ht (q + figsT lt le q)
                refine n_iload O dX4_readItem_110 rfl ?_
                refine r_icmp_eq (tgt := 117) O ⟨by omega, by omega⟩ ⟨by omega, by omega⟩ dX4_readItem_112 (by decide) (fun hc112 => ?_) (fun hc112 => ?_)
                · skip
                  refine n_iinc O dX4_readItem_117 (by decide) rfl rfl ?_
                  refine n_iinc O dX4_readItem_120 (by decide) rfl rfl ?_
                  refine r_goto (tgt := 16) O dX4_readItem_123 (by decide) ?_
                  have hvq : 0 ≤ valT lt le q ∧ valT lt le q ≤ 99 := hvb (by omega)
                  have hen : endT (manyT (atT lt le p)) k = 44 ∨ endT (manyT (atT lt le p)) k = 59 := by unfold endT; split <;> simp
                  have hnx : plT lt le (manyT (atT lt le p)) p (k + 1) = q + figsT lt le q + 1 := by show (if plT lt le (manyT (atT lt le p)) p k = -1 ∨ figsT lt le (plT lt le (manyT (atT lt le p)) p k) = 0 ∨ atT lt le (plT lt le (manyT (atT lt le p)) p k + figsT lt le (plT lt le (manyT (atT lt le p)) p k)) ≠ endT (manyT (atT lt le p)) k then -1 else plT lt le (manyT (atT lt le p)) p k + figsT lt le (plT lt le (manyT (atT lt le p)) p k) + 1) = _; rw [hq]; rw [if_neg (by unfold endT; split <;> omega)]
                  exact G_chk (ih16 _ (by omega) (k + 1) _ _ ⟨by omega, hnx, by omega, okN_up hn1 (by unfold valT; first | rw [if_pos (by omega)] | rw [if_neg (by omega)]) hvq, nuStep hq hn2 (by unfold valT; first | rw [if_pos (by omega)] | rw [if_neg (by omega)])⟩ rfl) (zsc rfl (zsc rfl (zsc rfl (zsc rfl (zsc rfl zsn)))))
                · skip
                  refine r_iconst O dX4_readItem_115 ?_
                  exact hE _ _ _ _ dX4_readItem_116 rfl ⟨_, okN_up hn1 (by unfold valT; first | rw [if_pos (by omega)] | rw [if_neg (by omega)]) (hvb (by omega)), rfl, Or.inr ⟨by omega, by (have hx : plT lt le (manyT (atT lt le p)) p (k + 1) = -1 := by show (if plT lt le (manyT (atT lt le p)) p k = -1 ∨ figsT lt le (plT lt le (manyT (atT lt le p)) p k) = 0 ∨ atT lt le (plT lt le (manyT (atT lt le p)) p k + figsT lt le (plT lt le (manyT (atT lt le p)) p k)) ≠ endT (manyT (atT lt le p)) k then -1 else _) = _; rw [hq]; rw [if_pos (by unfold endT; split <;> omega)]); exact (plT_m1 hx (by omega)).symm, fun h => absurd rfl h⟩⟩
            · skip
              refine n_aload_n O dX4_readItem_58 rfl ?_
              refine n_iload_n O dX4_readItem_59 rfl ?_
              refine r_callV1i O (C_X4_figure hI hN _ _ _ _ ht _ ⟨by omega, by omega⟩) q_X4_47 (by rw [hN]; decide) (fs := _) rfl rfl rfl (by decide) (by decide) (Nat.le_of_ble_eq_true rfl) dX4_readItem_60 (fun zz60 zu60 hz60 => ?_)
              obtain ⟨rfl, rfl⟩ := hz60
              refine r_goto (tgt := 82) O dX4_readItem_63 (by decide) ?_
              refine T_st_nu O hN (by omega) (by omega) dX4_readItem_82 ?_
              refine n_iload_n O dX4_readItem_83 rfl ?_
              refine n_iload O dX4_readItem_84 rfl ?_
              refine r_iadd O dX4_readItem_86 ?_
              refine n_istore_n O dX4_readItem_87 (by decide) rfl ?_
              refine n_iload O dX4_readItem_88 rfl ?_
              refine r_iconst O dX4_readItem_90 ?_
              refine r_iadd O dX4_readItem_91 ?_
              refine n_iload_n O dX4_readItem_92 rfl ?_
              refine r_icmp_ge (tgt := 101) O ⟨by omega, by omega⟩ ⟨by omega, by omega⟩ dX4_readItem_93 (by decide) (fun hc93 => ?_) (fun hc93 => ?_)
              · skip
                refine r_bipush O (by decide +kernel) dX4_readItem_101 ?_
                refine n_istore O dX4_readItem_103 (by decide) rfl ?_
                refine n_aload_n O dX4_readItem_105 rfl ?_
                refine n_iload_n O dX4_readItem_106 rfl ?_
                refine r_callV1i O (C_X4_at hI hN _ _ _ _ ht _ ⟨by omega, by omega⟩) q_X4_32 (by rw [hN]; decide) (fs := _) rfl rfl rfl (by decide) (by decide) (Nat.le_of_ble_eq_true rfl) dX4_readItem_107 (fun zz107 zu107 hz107 => ?_)
                obtain ⟨rfl, rfl⟩ := hz107
                have hab := atT_b ht (q + figsT lt le q)
                refine n_iload O dX4_readItem_110 rfl ?_
                refine r_icmp_eq (tgt := 117) O ⟨by omega, by omega⟩ ⟨by omega, by omega⟩ dX4_readItem_112 (by decide) (fun hc112 => ?_) (fun hc112 => ?_)
                · skip
                  refine n_iinc O dX4_readItem_117 (by decide) rfl rfl ?_
                  refine n_iinc O dX4_readItem_120 (by decide) rfl rfl ?_
                  refine r_goto (tgt := 16) O dX4_readItem_123 (by decide) ?_
                  have hvq : 0 ≤ valT lt le q ∧ valT lt le q ≤ 99 := hvb (by omega)
                  have hen : endT (manyT (atT lt le p)) k = 44 ∨ endT (manyT (atT lt le p)) k = 59 := by unfold endT; split <;> simp
                  have hnx : plT lt le (manyT (atT lt le p)) p (k + 1) = q + figsT lt le q + 1 := by show (if plT lt le (manyT (atT lt le p)) p k = -1 ∨ figsT lt le (plT lt le (manyT (atT lt le p)) p k) = 0 ∨ atT lt le (plT lt le (manyT (atT lt le p)) p k + figsT lt le (plT lt le (manyT (atT lt le p)) p k)) ≠ endT (manyT (atT lt le p)) k then -1 else plT lt le (manyT (atT lt le p)) p k + figsT lt le (plT lt le (manyT (atT lt le p)) p k) + 1) = _; rw [hq]; rw [if_neg (by unfold endT; split <;> omega)]
                  exact G_chk (ih16 _ (by omega) (k + 1) _ _ ⟨by omega, hnx, by omega, okN_up hn1 (by unfold valT; first | rw [if_pos (by omega)] | rw [if_neg (by omega)]) hvq, nuStep hq hn2 (by unfold valT; first | rw [if_pos (by omega)] | rw [if_neg (by omega)])⟩ rfl) (zsc rfl (zsc rfl (zsc rfl (zsc rfl (zsc rfl zsn)))))
                · skip
                  refine r_iconst O dX4_readItem_115 ?_
                  exact hE _ _ _ _ dX4_readItem_116 rfl ⟨_, okN_up hn1 (by unfold valT; first | rw [if_pos (by omega)] | rw [if_neg (by omega)]) (hvb (by omega)), rfl, Or.inr ⟨by omega, by (have hx : plT lt le (manyT (atT lt le p)) p (k + 1) = -1 := by show (if plT lt le (manyT (atT lt le p)) p k = -1 ∨ figsT lt le (plT lt le (manyT (atT lt le p)) p k) = 0 ∨ atT lt le (plT lt le (manyT (atT lt le p)) p k + figsT lt le (plT lt le (manyT (atT lt le p)) p k)) ≠ endT (manyT (atT lt le p)) k then -1 else _) = _; rw [hq]; rw [if_pos (by unfold endT; split <;> omega)]); exact (plT_m1 hx (by omega)).symm, fun h => absurd rfl h⟩⟩
              · skip
                refine r_bipush O (by decide +kernel) dX4_readItem_96 ?_
                refine r_goto (tgt := 103) O dX4_readItem_98 (by decide) ?_
                refine n_istore O dX4_readItem_103 (by decide) rfl ?_
                refine n_aload_n O dX4_readItem_105 rfl ?_
                refine n_iload_n O dX4_readItem_106 rfl ?_
                refine r_callV1i O (C_X4_at hI hN _ _ _ _ ht _ ⟨by omega, by omega⟩) q_X4_32 (by rw [hN]; decide) (fs := _) rfl rfl rfl (by decide) (by decide) (Nat.le_of_ble_eq_true rfl) dX4_readItem_107 (fun zz107 zu107 hz107 => ?_)
                obtain ⟨rfl, rfl⟩ := hz107
                have hab := atT_b ht (q + figsT lt le q)
                refine n_iload O dX4_readItem_110 rfl ?_
                refine r_icmp_eq (tgt := 117) O ⟨by omega, by omega⟩ ⟨by omega, by omega⟩ dX4_readItem_112 (by decide) (fun hc112 => ?_) (fun hc112 => ?_)
                · skip
                  refine n_iinc O dX4_readItem_117 (by decide) rfl rfl ?_
                  refine n_iinc O dX4_readItem_120 (by decide) rfl rfl ?_
                  refine r_goto (tgt := 16) O dX4_readItem_123 (by decide) ?_
                  have hvq : 0 ≤ valT lt le q ∧ valT lt le q ≤ 99 := hvb (by omega)
                  have hen : endT (manyT (atT lt le p)) k = 44 ∨ endT (manyT (atT lt le p)) k = 59 := by unfold endT; split <;> simp
                  have hnx : plT lt le (manyT (atT lt le p)) p (k + 1) = q + figsT lt le q + 1 := by show (if plT lt le (manyT (atT lt le p)) p k = -1 ∨ figsT lt le (plT lt le (manyT (atT lt le p)) p k) = 0 ∨ atT lt le (plT lt le (manyT (atT lt le p)) p k + figsT lt le (plT lt le (manyT (atT lt le p)) p k)) ≠ endT (manyT (atT lt le p)) k then -1 else plT lt le (manyT (atT lt le p)) p k + figsT lt le (plT lt le (manyT (atT lt le p)) p k) + 1) = _; rw [hq]; rw [if_neg (by unfold endT; split <;> omega)]
                  exact G_chk (ih16 _ (by omega) (k + 1) _ _ ⟨by omega, hnx, by omega, okN_up hn1 (by unfold valT; first | rw [if_pos (by omega)] | rw [if_neg (by omega)]) hvq, nuStep hq hn2 (by unfold valT; first | rw [if_pos (by omega)] | rw [if_neg (by omega)])⟩ rfl) (zsc rfl (zsc rfl (zsc rfl (zsc rfl (zsc rfl zsn)))))
                · skip
                  refine r_iconst O dX4_readItem_115 ?_
                  exact hE _ _ _ _ dX4_readItem_116 rfl ⟨_, okN_up hn1 (by unfold valT; first | rw [if_pos (by omega)] | rw [if_neg (by omega)]) (hvb (by omega)), rfl, Or.inr ⟨by omega, by (have hx : plT lt le (manyT (atT lt le p)) p (k + 1) = -1 := by show (if plT lt le (manyT (atT lt le p)) p k = -1 ∨ figsT lt le (plT lt le (manyT (atT lt le p)) p k) = 0 ∨ atT lt le (plT lt le (manyT (atT lt le p)) p k + figsT lt le (plT lt le (manyT (atT lt le p)) p k)) ≠ endT (manyT (atT lt le p)) k then -1 else _) = _; rw [hq]; rw [if_pos (by unfold endT; split <;> omega)]); exact (plT_m1 hx (by omega)).symm, fun h => absurd rfl h⟩⟩
          · skip
            refine r_iconst O dX4_readItem_44 ?_
            exact hE _ _ _ _ dX4_readItem_45 rfl ⟨nu1, hn1, rfl, Or.inr ⟨by omega, by (have hx : plT lt le (manyT (atT lt le p)) p (k + 1) = -1 := by show (if plT lt le (manyT (atT lt le p)) p k = -1 ∨ figsT lt le (plT lt le (manyT (atT lt le p)) p k) = 0 ∨ atT lt le (plT lt le (manyT (atT lt le p)) p k + figsT lt le (plT lt le (manyT (atT lt le p)) p k)) ≠ endT (manyT (atT lt le p)) k then -1 else _) = _; rw [hq]; rw [if_pos (by omega)]); exact (plT_m1 hx (by omega)).symm, fun h => absurd rfl h⟩⟩
  exact G_chk (L16 _ 0 (p + 1) nu ⟨by omega, rfl, by omega, hnu, fun m hm => by omega⟩ rfl) (zsc rfl (zsc rfl (zsc rfl (zsc rfl (zsc rfl zsn)))))
set_option maxHeartbeats 4000000 in
theorem C_X4_isTaken {K : zK} (hI : zInj K) (hN : kN K = 85) (c : CS) (lt nu : Int → Int) (le : Int) (hnu : okN nu) (x : Int) (hx : 0 ≤ x ∧ x ≤ 126) (j : Nat) (hj : j < 12) (hn : 0 ≤ qn (c.1 j) ∧ qn (c.1 j) ≤ 7) : zCi K yX4_isTaken cX4_isTaken 3 (some .boolean) 2 [.ref (kad K 1), .int (iI x), .ref (kad K (6 * j + 13))] (layC K (wT c (lt, nu, le))) (fun z u => (tOk x (qn (c.1 j)) (nu 0) (nu 1) (nu 2) (nu 3) ∧ z = 1 ∧ u = layC K (wT (wS c j (tV x (c.1 j) (nu 0) (nu 1) (nu 2) (nu 3))) (lt, nu, le))) ∨ (¬ tOk x (qn (c.1 j)) (nu 0) (nu 1) (nu 2) (nu 3) ∧ z = 0 ∧ u = (layC K (wT c (lt, nu, le))))) := by
  refine zCi_in hI (by decide +kernel) (Nat.le_of_ble_eq_true rfl) (fun X O hE => ?_)
  refine n_iload_n O dX4_isTaken_0 rfl ?_
  refine r_bipush O (by decide +kernel) dX4_isTaken_1 ?_
  refine r_icmp_ne (tgt := 35) O ⟨by omega, by omega⟩ ⟨by omega, by omega⟩ dX4_isTaken_3 (by decide) (fun hc3 => ?_) (fun hc3 => ?_)
  · skip
    refine n_iload_n O dX4_isTaken_35 rfl ?_
    refine r_bipush O (by decide +kernel) dX4_isTaken_36 ?_
    refine r_icmp_ne (tgt := 64) O ⟨by omega, by omega⟩ ⟨by omega, by omega⟩ dX4_isTaken_38 (by decide) (fun hc38 => ?_) (fun hc38 => ?_)
    · skip
      refine n_iload_n O dX4_isTaken_64 rfl ?_
      refine r_bipush O (by decide +kernel) dX4_isTaken_65 ?_
      refine r_icmp_ne (tgt := 81) O ⟨by omega, by omega⟩ ⟨by omega, by omega⟩ dX4_isTaken_67 (by decide) (fun hc67 => ?_) (fun hc67 => ?_)
      · skip
        refine n_iload_n O dX4_isTaken_81 rfl ?_
        refine r_bipush O (by decide +kernel) dX4_isTaken_82 ?_
        refine r_icmp_ne (tgt := 104) O ⟨by omega, by omega⟩ ⟨by omega, by omega⟩ dX4_isTaken_84 (by decide) (fun hc84 => ?_) (fun hc84 => ?_)
        · skip
          refine r_iconst O dX4_isTaken_104 ?_
          exact hE _ _ _ _ dX4_isTaken_105 (nar01 (by omega)) (by first | (exact Or.inr ⟨fun q => by rcases q with q | q | q <;> omega, rfl, rfl⟩) | (rcases hz94 with ⟨h1, h2, h3⟩ | ⟨h1, h2, h3⟩; (first | (exact Or.inl ⟨Or.inr (Or.inr ⟨by omega, h1⟩), rfl, by rw [h3]; unfold tV; rw [if_neg (by omega), if_neg (by omega), if_neg (by omega)]; rfl⟩) | (exfalso; omega)); (first | (exact Or.inr ⟨fun q => h1 (by rcases q with q | q | q; omega; omega; exact q.2), rfl, h3⟩) | (exfalso; omega))))
        · skip
          refine n_aload_n O dX4_isTaken_87 rfl ?_
          refine n_aload_n O dX4_isTaken_88 rfl ?_
          refine T_get_nu O hN fl_X4_15 dX4_isTaken_89 ?_
          refine r_iconst O dX4_isTaken_92 ?_
          refine T_ld_nu O hN (by omega) (by omega) dX4_isTaken_93 ?_
          refine r_callV1i O (E_X3_takeFastHunger hI hN (wT c (lt, nu, le)) j hj hn _ ⟨by have := hnu 0 (by decide) (by decide); omega, by have := hnu 0 (by decide) (by decide); omega⟩) q_X4_62 (by rw [hN]; omega) (lay_j0 K _ _) rfl rfl (by decide) (by decide) (Nat.le_of_ble_eq_true rfl) dX4_isTaken_94 (fun zz94 zu94 hz94 => ?_)
          have hz01 : zz94 = 0 ∨ zz94 = 1 := by rcases hz94 with ⟨_, h, _⟩ | ⟨_, h, _⟩ <;> omega
          refine r_if_eq (tgt := 104) O ⟨by omega, by omega⟩ dX4_isTaken_97 (by decide) (fun hc97 => ?_) (fun hc97 => ?_)
          · skip
            refine r_iconst O dX4_isTaken_104 ?_
            exact hE _ _ _ _ dX4_isTaken_105 (nar01 (by omega)) (by first | (exact Or.inr ⟨fun q => by rcases q with q | q | q <;> omega, rfl, rfl⟩) | (rcases hz94 with ⟨h1, h2, h3⟩ | ⟨h1, h2, h3⟩; (first | (exact Or.inl ⟨Or.inr (Or.inr ⟨by omega, h1⟩), rfl, by rw [h3]; unfold tV; rw [if_neg (by omega), if_neg (by omega), if_neg (by omega)]; rfl⟩) | (exfalso; omega)); (first | (exact Or.inr ⟨fun q => h1 (by rcases q with q | q | q; omega; omega; exact q.2), rfl, h3⟩) | (exfalso; omega))))
          · skip
            refine r_iconst O dX4_isTaken_100 ?_
            refine r_goto (tgt := 105) O dX4_isTaken_101 (by decide) ?_
            exact hE _ _ _ _ dX4_isTaken_105 (nar01 (by omega)) (by first | (exact Or.inr ⟨fun q => by rcases q with q | q | q <;> omega, rfl, rfl⟩) | (rcases hz94 with ⟨h1, h2, h3⟩ | ⟨h1, h2, h3⟩; (first | (exact Or.inl ⟨Or.inr (Or.inr ⟨by omega, h1⟩), rfl, by rw [h3]; unfold tV; rw [if_neg (by omega), if_neg (by omega), if_neg (by omega)]; rfl⟩) | (exfalso; omega)); (first | (exact Or.inr ⟨fun q => h1 (by rcases q with q | q | q; omega; omega; exact q.2), rfl, h3⟩) | (exfalso; omega))))
      · skip
        refine n_aload_n O dX4_isTaken_70 rfl ?_
        refine n_aload_n O dX4_isTaken_71 rfl ?_
        refine T_get_nu O hN fl_X4_15 dX4_isTaken_72 ?_
        refine r_iconst O dX4_isTaken_75 ?_
        refine T_ld_nu O hN (by omega) (by omega) dX4_isTaken_76 ?_
        refine r_callV1i O (E_X3_takeRounds hI hN (wT c (lt, nu, le)) j hj hn _ ⟨by have := hnu 0 (by decide) (by decide); omega, by have := hnu 0 (by decide) (by decide); omega⟩) q_X4_58 (by rw [hN]; omega) (lay_j0 K _ _) rfl rfl (by decide) (by decide) (Nat.le_of_ble_eq_true rfl) dX4_isTaken_77 (fun zz77 zu77 hz77 => ?_)
        exact hE _ _ _ _ dX4_isTaken_80 (nar01 (by rcases hz77 with ⟨_, h, _⟩ | ⟨_, h, _⟩ <;> omega)) (by rcases hz77 with ⟨h1, h2, h3⟩ | ⟨h1, h2, h3⟩; (exact Or.inl ⟨Or.inr (Or.inr ⟨by omega, h1⟩), h2, by rw [h3]; unfold tV; rw [if_neg (by omega), if_neg (by omega), if_pos (by omega)]; rfl⟩); (exact Or.inr ⟨fun q => h1 (by rcases q with q | q | q; omega; omega; exact q.2), h2, h3⟩))
    · skip
      refine n_aload_n O dX4_isTaken_41 rfl ?_
      refine n_aload_n O dX4_isTaken_42 rfl ?_
      refine T_get_nu O hN fl_X4_15 dX4_isTaken_43 ?_
      refine r_iconst O dX4_isTaken_46 ?_
      refine T_ld_nu O hN (by omega) (by omega) dX4_isTaken_47 ?_
      refine n_aload_n O dX4_isTaken_48 rfl ?_
      refine T_get_nu O hN fl_X4_15 dX4_isTaken_49 ?_
      refine r_iconst O dX4_isTaken_52 ?_
      refine T_ld_nu O hN (by omega) (by omega) dX4_isTaken_53 ?_
      refine n_aload_n O dX4_isTaken_54 rfl ?_
      refine T_get_nu O hN fl_X4_15 dX4_isTaken_55 ?_
      refine r_iconst O dX4_isTaken_58 ?_
      refine T_ld_nu O hN (by omega) (by omega) dX4_isTaken_59 ?_
      refine r_callV3i O (E_X3_takePot hI hN (wT c (lt, nu, le)) j hj hn _ _ _ ⟨by have := hnu 0 (by decide) (by decide); omega, by have := hnu 0 (by decide) (by decide); omega⟩ ⟨by have := hnu 1 (by decide) (by decide); omega, by have := hnu 1 (by decide) (by decide); omega⟩ ⟨by have := hnu 2 (by decide) (by decide); omega, by have := hnu 2 (by decide) (by decide); omega⟩) q_X4_54 (by rw [hN]; omega) (lay_j0 K _ _) rfl rfl (by decide) (by decide) (Nat.le_of_ble_eq_true rfl) dX4_isTaken_60 (fun zz60 zu60 hz60 => ?_)
      exact hE _ _ _ _ dX4_isTaken_63 (nar01 (by rcases hz60 with ⟨_, h, _⟩ | ⟨_, h, _⟩ <;> omega)) (by rcases hz60 with ⟨h1, h2, h3⟩ | ⟨h1, h2, h3⟩; (exact Or.inl ⟨Or.inr (Or.inl ⟨by omega, h1⟩), h2, by rw [h3]; unfold tV; rw [if_neg (by omega), if_pos (by omega)]; rfl⟩); (exact Or.inr ⟨fun q => h1 (by rcases q with q | q | q; omega; exact q.2; omega), h2, h3⟩))
  · skip
    refine n_aload_n O dX4_isTaken_6 rfl ?_
    refine n_aload_n O dX4_isTaken_7 rfl ?_
    refine T_get_nu O hN fl_X4_15 dX4_isTaken_8 ?_
    refine r_iconst O dX4_isTaken_11 ?_
    refine T_ld_nu O hN (by omega) (by omega) dX4_isTaken_12 ?_
    refine n_aload_n O dX4_isTaken_13 rfl ?_
    refine T_get_nu O hN fl_X4_15 dX4_isTaken_14 ?_
    refine r_iconst O dX4_isTaken_17 ?_
    refine T_ld_nu O hN (by omega) (by omega) dX4_isTaken_18 ?_
    refine n_aload_n O dX4_isTaken_19 rfl ?_
    refine T_get_nu O hN fl_X4_15 dX4_isTaken_20 ?_
    refine r_iconst O dX4_isTaken_23 ?_
    refine T_ld_nu O hN (by omega) (by omega) dX4_isTaken_24 ?_
    refine n_aload_n O dX4_isTaken_25 rfl ?_
    refine T_get_nu O hN fl_X4_15 dX4_isTaken_26 ?_
    refine r_iconst O dX4_isTaken_29 ?_
    refine T_ld_nu O hN (by omega) (by omega) dX4_isTaken_30 ?_
    refine r_callV4i O (E_X3_takeMember hI hN (wT c (lt, nu, le)) j hj hn _ _ _ _ ⟨by have := hnu 0 (by decide) (by decide); omega, by have := hnu 0 (by decide) (by decide); omega⟩ ⟨by have := hnu 1 (by decide) (by decide); omega, by have := hnu 1 (by decide) (by decide); omega⟩ ⟨by have := hnu 2 (by decide) (by decide); omega, by have := hnu 2 (by decide) (by decide); omega⟩ ⟨by have := hnu 3 (by decide) (by decide); omega, by have := hnu 3 (by decide) (by decide); omega⟩) q_X4_50 (by rw [hN]; omega) (lay_j0 K _ _) rfl rfl (by decide) (by decide) (Nat.le_of_ble_eq_true rfl) dX4_isTaken_31 (fun zz31 zu31 hz31 => ?_)
    exact hE _ _ _ _ dX4_isTaken_34 (nar01 (by rcases hz31 with ⟨_, h, _⟩ | ⟨_, h, _⟩ <;> omega)) (by rcases hz31 with ⟨h1, h2, h3⟩ | ⟨h1, h2, h3⟩; (exact Or.inl ⟨Or.inl ⟨(by omega), h1⟩, h2, by rw [h3]; unfold tV; rw [if_pos (by omega)]; rfl⟩); (exact Or.inr ⟨fun q => h1 (by rcases q with q | q | q; exact q.2; omega; omega), h2, h3⟩))
set_option maxHeartbeats 4000000 in
theorem C_X4_layOut {K : zK} (hI : zInj K) (hN : kN K = 85) (c : CS) (lt nu : Int → Int) (le : Int) (ht : okT lt le) (hnu : okN nu) (j : Nat) (hj : j < 12)  : zCi K yX4_layOut cX4_layOut 5 (some .int) 4 [.ref (kad K 1), .ref (kad K (6 * j + 13))] (layC K (wT c (lt, nu, le))) (fun z u => ∃ (nu1 : Int → Int) (w : SV), okN nu1 ∧ faultP lt le (c.1 j) z w ∧ u = layC K (wT (wS c j w) (lt, nu1, le))) := by
  have hle := ht.1
  refine zCi_in hI (by decide +kernel) (Nat.le_of_ble_eq_true rfl) (fun X O hE => ?_)
  refine n_aload_n O dX4_layOut_0 rfl ?_
  refine r_callV0v O (E_X3_clear hI hN (wT c (lt, nu, le)) j hj) q_X4_23 (by rw [hN]; omega) (lay_j0 K _ _) rfl rfl (by decide) (by decide) (Nat.le_of_ble_eq_true rfl) dX4_layOut_1 (fun zu1 hz1 => ?_)
  obtain rfl := hz1
  refine r_iconst O dX4_layOut_4 ?_
  refine n_istore_n O dX4_layOut_5 (by decide) rfl ?_
  refine r_iconst O dX4_layOut_6 ?_
  refine n_istore_n O dX4_layOut_7 (by decide) rfl ?_
  have L8 : ∀ (zk : Nat) (k : Nat) (p : Int) (v : SV) (nu1 : Int → Int), (stT lt le (c.1 j) k = (p, v) ∧ okN nu1 ∧ (∀ m : Nat, m < k → okI lt le (stT lt le (c.1 j) m).1 (qn (stT lt le (c.1 j) m).2)) ∧ 3 * (k : Int) ≤ p ∧ p ≤ le) → 200 - k = zk → G K X 5 8 [(0, .ref (kad K 1)), (1, .ref (kad K (6 * j + 13))), (2, .int (iI p)), (3, .int (iI (k : Int)))] [] (layC K (wT (wS c j v) (lt, nu1, le))) := by
    intro zk
    induction zk using Nat.strongRecOn with
    | ind zk ih8 =>
      intro k p v nu1 hinv hk
      obtain ⟨hq, hnu1, hok, hp3, hpl⟩ := hinv
      have hvq : okV v := by have := okV_stT hok; rw [hq] at this; exact this
      refine n_iload_n O dX4_layOut_8 rfl ?_
      refine r_sipush O (by decide +kernel) dX4_layOut_9 ?_
      refine r_icmp_ge (tgt := 60) O ⟨by omega, by omega⟩ ⟨by omega, by omega⟩ dX4_layOut_12 (by decide) (fun hc12 => ?_) (fun hc12 => ?_)
      · skip
        refine r_bipush O (by decide +kernel) dX4_layOut_60 ?_
        exact hE _ _ _ _ dX4_layOut_62 rfl ⟨nu1, v, hnu1, ⟨k, hok, Or.inl ⟨by rw [hq]; show ¬ p < le; omega, rfl, by rw [hq]⟩⟩, rfl⟩
      · skip
        refine n_iload_n O dX4_layOut_15 rfl ?_
        refine n_aload_n O dX4_layOut_16 rfl ?_
        refine T_get_le O hN fl_X4_19 dX4_layOut_17 ?_
        refine r_icmp_ge (tgt := 60) O ⟨by omega, by omega⟩ ⟨by omega, by omega⟩ dX4_layOut_20 (by decide) (fun hc20 => ?_) (fun hc20 => ?_)
        · skip
          refine r_bipush O (by decide +kernel) dX4_layOut_60 ?_
          exact hE _ _ _ _ dX4_layOut_62 rfl ⟨nu1, v, hnu1, ⟨k, hok, Or.inl ⟨by rw [hq]; show ¬ p < le; omega, rfl, by rw [hq]⟩⟩, rfl⟩
        · skip
          refine n_aload_n O dX4_layOut_23 rfl ?_
          refine n_iload_n O dX4_layOut_24 rfl ?_
          refine r_callV1i O (C_X4_readItem hI hN (wS c j v) lt nu1 le ht hnu1 p ⟨by omega, by omega⟩) q_X4_28 (by rw [hN]; decide) (fs := _) rfl rfl rfl (by decide) (by decide) (Nat.le_of_ble_eq_true rfl) dX4_layOut_25 (fun zz25 zu25 hz25 => ?_)
          obtain ⟨nu2, hnu2, rfl, hri⟩ := hz25
          have hzb : zB zz25 := by rcases hri with ⟨_, h⟩ | ⟨_, h, _⟩; (rw [h]; exact ⟨by decide, by decide⟩); (have hb := plT_b (lt := lt) (le := le) (many := manyT (atT lt le p)) (p := p) (by omega) (manyT (atT lt le p))); (have hmb := manyT_b (atT lt le p)); rw [h]; unfold endI; exact ⟨by omega, by omega⟩
          refine n_istore O dX4_layOut_28 (by decide) rfl ?_
          refine n_iload O dX4_layOut_30 rfl ?_
          refine r_iconst O dX4_layOut_32 ?_
          refine r_icmp_eq (tgt := 49) O hzb ⟨by omega, by omega⟩ dX4_layOut_33 (by decide) (fun hc33 => ?_) (fun hc33 => ?_)
          · skip
            refine n_iload_n O dX4_layOut_49 rfl ?_
            exact hE _ _ _ _ dX4_layOut_50 rfl ⟨nu2, v, hnu2, ⟨k, hok, Or.inr ⟨by rw [hq]; show p < le; omega, by rw [hq]; intro hh; rcases hri with ⟨h, _⟩ | ⟨_, h, _⟩; (exact hh.2.1 h); (exact hh.2.2.1 (by show endI lt le p = -1; rw [← h]; omega)), by rw [hq]⟩⟩, rfl⟩
          · skip
            refine n_aload_n O dX4_layOut_36 rfl ?_
            refine n_aload_n O dX4_layOut_37 rfl ?_
            refine n_iload_n O dX4_layOut_38 rfl ?_
            refine r_callV1i O (C_X4_at hI hN _ _ _ _ ht _ ⟨by omega, by omega⟩) q_X4_32 (by rw [hN]; decide) (fs := _) rfl rfl rfl (by decide) (by decide) (Nat.le_of_ble_eq_true rfl) dX4_layOut_39 (fun zz39 zu39 hz39 => ?_)
            obtain ⟨rfl, rfl⟩ := hz39
            have hab := atT_b ht p
            refine n_aload_n O dX4_layOut_42 rfl ?_
            refine r_callV2i O (C_X4_isTaken hI hN (wS c j v) lt nu2 le hnu2 _ hab j hj (by rw [wS_s]; exact hvq.1)) q_X4_36 (by rw [hN]; decide) (fs := _) rfl rfl rfl (by decide) (by decide) (Nat.le_of_ble_eq_true rfl) dX4_layOut_43 (fun zz43 zu43 hz43 => ?_)
            rw [wS_s, wS_up] at hz43
            have hz01 : zz43 = 0 ∨ zz43 = 1 := by rcases hz43 with ⟨_, h, _⟩ | ⟨_, h, _⟩ <;> omega
            have hri2 : manyT (atT lt le p) ≠ 0 ∧ zz25 = endI lt le p ∧ ∀ k : Nat, k < manyT (atT lt le p) → nu2 (k : Int) = nuT lt le p k := by rcases hri with ⟨_, h⟩ | ⟨h1, h2, h3⟩; (exact absurd h (by omega)); exact ⟨h1, h2, h3 (by omega)⟩
            have htk := tOk_nu hri2.1 hri2.2.2 v
            refine r_if_ne (tgt := 51) O ⟨by omega, by omega⟩ dX4_layOut_46 (by decide) (fun hc46 => ?_) (fun hc46 => ?_)
            · skip
              refine n_iload O dX4_layOut_51 rfl ?_
              refine n_istore_n O dX4_layOut_53 (by decide) rfl ?_
              refine n_iinc O dX4_layOut_54 (by decide) rfl rfl ?_
              refine r_goto (tgt := 8) O dX4_layOut_57 (by decide) ?_
              have h43 : tOk (atT lt le p) (qn v) (nuT lt le p 0) (nuT lt le p 1) (nuT lt le p 2) (nuT lt le p 3) ∧ zu43 = layC K (wT (wS c j (tV (atT lt le p) v (nuT lt le p 0) (nuT lt le p 1) (nuT lt le p 2) (nuT lt le p 3))) (lt, nu2, le)) := by rcases hz43 with ⟨h1, h2, h3⟩ | ⟨h1, h2, h3⟩; (exact ⟨htk.1.mp h1, by rw [h3, htk.2]⟩); (exfalso; omega)
              obtain ⟨h431, rfl⟩ := h43
              have hokk : okI lt le (stT lt le (c.1 j) k).1 (qn (stT lt le (c.1 j) k).2) := by rw [hq]; exact ⟨by show p < le; omega, hri2.1, by show endI lt le p ≠ -1; rw [← hri2.2.1]; omega, h431⟩
              have hnx := okI_next (by omega) (by rw [hq]; show 0 ≤ p; omega) hokk
              rw [hq] at hnx
              have hnx2 : p + 3 ≤ endI lt le p ∧ endI lt le p ≤ le := hnx
              have e25 := hri2.2.1
              subst e25
              exact G_chk (ih8 _ (by omega) (k + 1) _ _ _ ⟨by show (endI lt le (stT lt le (c.1 j) k).1, tV (atT lt le (stT lt le (c.1 j) k).1) (stT lt le (c.1 j) k).2 (nuT lt le (stT lt le (c.1 j) k).1 0) (nuT lt le (stT lt le (c.1 j) k).1 1) (nuT lt le (stT lt le (c.1 j) k).1 2) (nuT lt le (stT lt le (c.1 j) k).1 3)) = _; rw [hq], hnu2, fun m hm => by rcases Nat.lt_or_ge m k with h | h; exact hok m h; (have e : m = k := by omega); rw [e]; exact hokk, by omega, by omega⟩ rfl) (zsc rfl (zsc rfl (zsc rfl (zsc rfl zsn))))
            · skip
              refine n_iload_n O dX4_layOut_49 rfl ?_
              exact hE _ _ _ _ dX4_layOut_50 rfl ⟨nu2, v, hnu2, ⟨k, hok, Or.inr ⟨by rw [hq]; show p < le; omega, by rw [hq]; intro hh; rcases hz43 with ⟨_, h2, _⟩ | ⟨h1, _, _⟩; omega; exact h1 (htk.1.mpr hh.2.2.2), by rw [hq]⟩⟩, (by rcases hz43 with ⟨_, h2, _⟩ | ⟨_, _, h3⟩; (exfalso; omega); exact h3)⟩
  exact G_chk (L8 _ 0 0 (clearV (c.1 j)) nu ⟨rfl, hnu, fun m hm => by omega, by omega, by omega⟩ rfl) (zsc rfl (zsc rfl (zsc rfl (zsc rfl zsn))))
