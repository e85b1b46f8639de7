set_option maxHeartbeats 4000000 in
theorem C_X5_isOutside {K : zK} (hI : zInj K) (ct : zE) (a l h : Int) (ha : zB a) (hl : zB l) (hh : zB h) : zCi K yX5_isOutside cX5_isOutside 3 (some .boolean) 0 [.int (iI a), .int (iI l), .int (iI h)] ct (fun z u => z = outV a l h ∧ u = ct) := by
  have ha1 := ha.1
  have ha2 := ha.2
  have hl1 := hl.1
  have hl2 := hl.2
  have hh1 := hh.1
  have hh2 := hh.2
  refine zCi_in hI (by decide +kernel) (Nat.le_of_ble_eq_true rfl) (fun X O hE => ?_)
  refine n_iload_n O dX5_isOutside_0 rfl ?_
  refine n_iload_n O dX5_isOutside_1 rfl ?_
  refine r_icmp_lt (tgt := 10) O ⟨by omega, by omega⟩ ⟨by omega, by omega⟩ dX5_isOutside_2 (by decide) (fun hc2 => ?_) (fun hc2 => ?_)
  · skip
    refine r_iconst O dX5_isOutside_10 ?_
    refine r_goto (tgt := 15) O dX5_isOutside_11 (by decide) ?_
    exact hE _ _ _ _ dX5_isOutside_15 (nar01 (by omega)) ⟨by unfold outV; split <;> omega, rfl⟩
  · skip
    refine n_iload_n O dX5_isOutside_5 rfl ?_
    refine n_iload_n O dX5_isOutside_6 rfl ?_
    refine r_icmp_le (tgt := 14) O ⟨by omega, by omega⟩ ⟨by omega, by omega⟩ dX5_isOutside_7 (by decide) (fun hc7 => ?_) (fun hc7 => ?_)
    · skip
      refine r_iconst O dX5_isOutside_14 ?_
      exact hE _ _ _ _ dX5_isOutside_15 (nar01 (by omega)) ⟨by unfold outV; split <;> omega, rfl⟩
    · skip
      refine r_iconst O dX5_isOutside_10 ?_
      refine r_goto (tgt := 15) O dX5_isOutside_11 (by decide) ?_
      exact hE _ _ _ _ dX5_isOutside_15 (nar01 (by omega)) ⟨by unfold outV; split <;> omega, rfl⟩
set_option maxHeartbeats 4000000 in
theorem C_X3_hottestFor {K : zK} (hI : zInj K) (ct : zE) (k : Int) (hk : zB k) : zCi K yX3_hottestFor cX3_hottestFor 1 (some .int) 0 [.int (iI k)] ct (fun z u => z = hotV k ∧ u = ct) := by
  have hk1 := hk.1
  have hk2 := hk.2
  refine zCi_in hI (by decide +kernel) (Nat.le_of_ble_eq_true rfl) (fun X O hE => ?_)
  refine n_iload_n O dX3_hottestFor_0 rfl ?_
  have hsw : k < 1 ∨ 3 < k ∨ k = 1 ∨ k = 2 ∨ k = 3 := by omega
  rcases hsw with hsw | hsw | hsw | hsw | hsw
  · skip
    refine r_tabOut (tgt := 36) O ⟨by omega, by omega⟩ dX3_hottestFor_1 (Or.inl hsw) (by decide) ?_
    refine r_bipush O (by decide +kernel) dX3_hottestFor_36 ?_
    exact hE _ _ _ _ dX3_hottestFor_38 rfl ⟨by unfold hotV; split <;> (try split) <;> (try split) <;> omega, rfl⟩
  · skip
    refine r_tabOut (tgt := 36) O ⟨by omega, by omega⟩ dX3_hottestFor_1 (Or.inr hsw) (by decide) ?_
    refine r_bipush O (by decide +kernel) dX3_hottestFor_36 ?_
    exact hE _ _ _ _ dX3_hottestFor_38 rfl ⟨by unfold hotV; split <;> (try split) <;> (try split) <;> omega, rfl⟩
  · skip
    refine r_tabIn (off := 27) (tgt := 28) O ⟨by omega, by omega⟩ dX3_hottestFor_1 (by omega) (by omega) (by rw [hsw]; rfl) (by decide) ?_
    refine r_iconst O dX3_hottestFor_28 ?_
    exact hE _ _ _ _ dX3_hottestFor_29 rfl ⟨by unfold hotV; split <;> (try split) <;> (try split) <;> omega, rfl⟩
  · skip
    refine r_tabIn (off := 29) (tgt := 30) O ⟨by omega, by omega⟩ dX3_hottestFor_1 (by omega) (by omega) (by rw [hsw]; rfl) (by decide) ?_
    refine r_bipush O (by decide +kernel) dX3_hottestFor_30 ?_
    exact hE _ _ _ _ dX3_hottestFor_32 rfl ⟨by unfold hotV; split <;> (try split) <;> (try split) <;> omega, rfl⟩
  · skip
    refine r_tabIn (off := 32) (tgt := 33) O ⟨by omega, by omega⟩ dX3_hottestFor_1 (by omega) (by omega) (by rw [hsw]; rfl) (by decide) ?_
    refine r_bipush O (by decide +kernel) dX3_hottestFor_33 ?_
    exact hE _ _ _ _ dX3_hottestFor_35 rfl ⟨by unfold hotV; split <;> (try split) <;> (try split) <;> omega, rfl⟩
set_option maxHeartbeats 4000000 in
theorem C_X3_spoonful {K : zK} (hI : zInj K) (hN : kN K = 85) (c : CS) (j : Nat) (hj : j < 12) (n am he sa ro fa : Int) (kd sp hu be ea : Int → Int) (hv : okV (n, am, he, sa, ro, fa, kd, sp, hu, be, ea)) (i h : Int) (h0 : 0 ≤ i) (h1 : i < n) (hh : zB h) : zCi K yX3_spoonful cX3_spoonful 3 (some .int) 1 [.ref (kad K (6 * j + 13)), .int (iI i), .int (iI h)] (layC K (wS c j (n, am, he, sa, ro, fa, kd, sp, hu, be, ea))) (fun z u => z = spoonV sa h (kd i) (sp i) (be i) ∧ u = (layC K (wS c j (n, am, he, sa, ro, fa, kd, sp, hu, be, ea)))) := by
  obtain ⟨hn, ham, hhe, hsa, hro, hfa, hm⟩ : (0 ≤ n ∧ n ≤ 7) ∧ (0 ≤ am ∧ am ≤ 99) ∧ (0 ≤ he ∧ he ≤ 9) ∧ (0 ≤ sa ∧ sa ≤ 9) ∧ (1 ≤ ro ∧ ro ≤ 20) ∧ (1 ≤ fa ∧ fa ≤ 20) ∧ ∀ i : Int, 0 ≤ i → i < n → (0 ≤ kd i ∧ kd i ≤ 3) ∧ (1 ≤ sp i ∧ sp i ≤ 9) ∧ (0 ≤ hu i ∧ hu i ≤ 60) ∧ (0 ≤ be i ∧ be i ≤ 9) := hv
  have hi := hm i h0 h1
  have hb := hotV_b (kd i)
  have hh1 := hh.1
  have hh2 := hh.2
  refine zCi_in hI (by decide +kernel) (Nat.le_of_ble_eq_true rfl) (fun X O hE => ?_)
  refine n_aload_n O dX3_spoonful_0 rfl ?_
  refine s_get_sa O hN hj fl_X3_37 dX3_spoonful_1 ?_
  refine n_aload_n O dX3_spoonful_4 rfl ?_
  refine s_arr_be O hN hj fl_X3_21 dX3_spoonful_5 ?_
  refine n_iload_n O dX3_spoonful_8 rfl ?_
  refine s_ld_be O hN hj (by omega) (by omega) dX3_spoonful_9 ?_
  refine r_icmp_gt (tgt := 26) O ⟨by omega, by omega⟩ ⟨by omega, by omega⟩ dX3_spoonful_10 (by decide) (fun hc10 => ?_) (fun hc10 => ?_)
  · skip
    refine r_iconst O dX3_spoonful_26 ?_
    exact hE _ _ _ _ dX3_spoonful_27 rfl ⟨by unfold spoonV; split <;> (try split) <;> (try split) <;> omega, rfl⟩
  · skip
    refine n_iload_n O dX3_spoonful_13 rfl ?_
    refine n_aload_n O dX3_spoonful_14 rfl ?_
    refine s_arr_kd O hN hj fl_X3_9 dX3_spoonful_15 ?_
    refine n_iload_n O dX3_spoonful_18 rfl ?_
    refine s_ld_kd O hN hj (by omega) (by omega) dX3_spoonful_19 ?_
    refine r_callS1i O (C_X3_hottestFor hI _ _ ⟨by omega, by omega⟩) q_X3_65 (by decide) (by decide) (Nat.le_of_ble_eq_true rfl) dX3_spoonful_20 (fun zz20 zu20 hz20 => ?_)
    obtain ⟨rfl, rfl⟩ := hz20
    refine r_icmp_le (tgt := 28) O ⟨by omega, by omega⟩ ⟨by omega, by omega⟩ dX3_spoonful_23 (by decide) (fun hc23 => ?_) (fun hc23 => ?_)
    · skip
      refine n_aload_n O dX3_spoonful_28 rfl ?_
      refine s_arr_kd O hN hj fl_X3_9 dX3_spoonful_29 ?_
      refine n_iload_n O dX3_spoonful_32 rfl ?_
      refine s_ld_kd O hN hj (by omega) (by omega) dX3_spoonful_33 ?_
      have hsw : kd i = 2 ∨ kd i = 3 ∨ (kd i ≠ 2 ∧ kd i ≠ 3) := by omega
      rcases hsw with hsw | hsw | hsw
      · skip
        refine r_look (off := 26) (tgt := 60) O ⟨by omega, by omega⟩ dX3_spoonful_34 (by decide) (by rw [hsw]; decide) (by decide) ?_
        refine r_iconst O dX3_spoonful_60 ?_
        refine n_aload_n O dX3_spoonful_61 rfl ?_
        refine s_arr_sp O hN hj fl_X3_15 dX3_spoonful_62 ?_
        refine n_iload_n O dX3_spoonful_65 rfl ?_
        refine s_ld_sp O hN hj (by omega) (by omega) dX3_spoonful_66 ?_
        refine r_imul O dX3_spoonful_67 ?_
        exact hE _ _ _ _ dX3_spoonful_68 rfl ⟨by unfold spoonV; split <;> (try split) <;> (try split) <;> omega, rfl⟩
      · skip
        refine r_look (off := 35) (tgt := 69) O ⟨by omega, by omega⟩ dX3_spoonful_34 (by decide) (by rw [hsw]; decide) (by decide) ?_
        refine r_iconst O dX3_spoonful_69 ?_
        exact hE _ _ _ _ dX3_spoonful_70 rfl ⟨by unfold spoonV; split <;> (try split) <;> (try split) <;> omega, rfl⟩
      · skip
        refine r_look (off := 37) (tgt := 71) O ⟨by omega, by omega⟩ dX3_spoonful_34 (by decide) (by simp only [Op.lookupswitch.offset]; repeat rw [if_neg (by omega)]) (by decide) ?_
        refine n_aload_n O dX3_spoonful_71 rfl ?_
        refine s_arr_sp O hN hj fl_X3_15 dX3_spoonful_72 ?_
        refine n_iload_n O dX3_spoonful_75 rfl ?_
        refine s_ld_sp O hN hj (by omega) (by omega) dX3_spoonful_76 ?_
        exact hE _ _ _ _ dX3_spoonful_77 rfl ⟨by unfold spoonV; split <;> (try split) <;> (try split) <;> omega, rfl⟩
    · skip
      refine r_iconst O dX3_spoonful_26 ?_
      exact hE _ _ _ _ dX3_spoonful_27 rfl ⟨by unfold spoonV; split <;> (try split) <;> (try split) <;> omega, rfl⟩
set_option maxHeartbeats 4000000 in
theorem C_X3_share {K : zK} (hI : zInj K) (hN : kN K = 85) (c : CS) (j : Nat) (hj : j < 12) (n am he sa ro fa : Int) (kd sp hu be ea : Int → Int) (hv : okV (n, am, he, sa, ro, fa, kd, sp, hu, be, ea)) (i : Int) (h0 : 0 ≤ i) (h1 : i < n) : zCi K yX3_share cX3_share 2 (some .int) 2 [.ref (kad K (6 * j + 13)), .int (iI i)] (layC K (wS c j (n, am, he, sa, ro, fa, kd, sp, hu, be, ea))) (fun z u => z = shareV (n, am, he, sa, ro, fa, kd, sp, hu, be, ea) i ∧ u = (layC K (wS c j (n, am, he, sa, ro, fa, kd, sp, hu, be, ea)))) := by
  obtain ⟨hn, ham, hhe, hsa, hro, hfa, hm⟩ : (0 ≤ n ∧ n ≤ 7) ∧ (0 ≤ am ∧ am ≤ 99) ∧ (0 ≤ he ∧ he ≤ 9) ∧ (0 ≤ sa ∧ sa ≤ 9) ∧ (1 ≤ ro ∧ ro ≤ 20) ∧ (1 ≤ fa ∧ fa ≤ 20) ∧ ∀ i : Int, 0 ≤ i → i < n → (0 ≤ kd i ∧ kd i ≤ 3) ∧ (1 ≤ sp i ∧ sp i ≤ 9) ∧ (0 ≤ hu i ∧ hu i ≤ 60) ∧ (0 ≤ be i ∧ be i ≤ 9) := hv
  have hi := hm i h0 h1
  have hb := spoonV_b (sa := sa) (he := he) (k := kd i) (be := be i) hi.2.1
  refine zCi_in hI (by decide +kernel) (Nat.le_of_ble_eq_true rfl) (fun X O hE => ?_)
  refine n_aload_n O dX3_share_0 rfl ?_
  refine n_iload_n O dX3_share_1 rfl ?_
  refine n_aload_n O dX3_share_2 rfl ?_
  refine s_get_he O hN hj fl_X3_34 dX3_share_3 ?_
  refine r_callV2i O (C_X3_spoonful hI hN _ _ hj _ _ _ _ _ _ _ _ _ _ _ hv _ _ (by omega) (by omega) ⟨by omega, by omega⟩) q_X3_56 (by rw [hN]; omega) (lay_q K _ _ _ 0 (by omega) (by decide) rfl) rfl rfl (by decide) (by decide) (Nat.le_of_ble_eq_true rfl) dX3_share_6 (fun zz6 zu6 hz6 => ?_)
  obtain ⟨rfl, rfl⟩ := hz6
  refine n_aload_n O dX3_share_9 rfl ?_
  refine s_arr_hu O hN hj fl_X3_18 dX3_share_10 ?_
  refine n_iload_n O dX3_share_13 rfl ?_
  refine s_ld_hu O hN hj (by omega) (by omega) dX3_share_14 ?_
  refine r_min O qm_X3_60 (by decide) (Nat.le_of_ble_eq_true rfl) ⟨by omega, by omega⟩ ⟨by omega, by omega⟩ dX3_share_15 ?_
  refine n_aload_n O dX3_share_18 rfl ?_
  refine s_get_am O hN hj fl_X3_31 dX3_share_19 ?_
  refine r_min O qm_X3_60 (by decide) (Nat.le_of_ble_eq_true rfl) ⟨by omega, by omega⟩ ⟨by omega, by omega⟩ dX3_share_22 ?_
  exact hE _ _ _ _ dX3_share_25 rfl ⟨rfl, rfl⟩
set_option maxHeartbeats 4000000 in
theorem C_X3_waitOnce {K : zK} (hI : zInj K) (hN : kN K = 85) (c : CS) (j : Nat) (hj : j < 12) (n am he sa ro fa : Int) (kd sp hu be ea : Int → Int) (hv : okV (n, am, he, sa, ro, fa, kd, sp, hu, be, ea))  : zCv K yX3_waitOnce cX3_waitOnce 1 1 [.ref (kad K (6 * j + 13))] (layC K (wS c j (n, am, he, sa, ro, fa, kd, sp, hu, be, ea))) (fun u => u = layC K (wS c j (n, am, max (he - 1) 0, sa, ro, fa, kd, sp, hu, be, ea))) := by
  obtain ⟨hn, ham, hhe, hsa, hro, hfa, hm⟩ : (0 ≤ n ∧ n ≤ 7) ∧ (0 ≤ am ∧ am ≤ 99) ∧ (0 ≤ he ∧ he ≤ 9) ∧ (0 ≤ sa ∧ sa ≤ 9) ∧ (1 ≤ ro ∧ ro ≤ 20) ∧ (1 ≤ fa ∧ fa ≤ 20) ∧ ∀ i : Int, 0 ≤ i → i < n → (0 ≤ kd i ∧ kd i ≤ 3) ∧ (1 ≤ sp i ∧ sp i ≤ 9) ∧ (0 ≤ hu i ∧ hu i ≤ 60) ∧ (0 ≤ be i ∧ be i ≤ 9) := hv
  refine zCv_in hI (by decide +kernel) (Nat.le_of_ble_eq_true rfl) (fun X O hE => ?_)
  refine n_aload_n O dX3_waitOnce_0 rfl ?_
  refine n_aload_n O dX3_waitOnce_1 rfl ?_
  refine s_get_he O hN hj fl_X3_34 dX3_waitOnce_2 ?_
  refine r_iconst O dX3_waitOnce_5 ?_
  refine r_isub O dX3_waitOnce_6 ?_
  refine r_iconst O dX3_waitOnce_7 ?_
  refine r_max O qm_X3_85 (by decide) (Nat.le_of_ble_eq_true rfl) ⟨by omega, by omega⟩ ⟨by omega, by omega⟩ dX3_waitOnce_8 ?_
  refine s_put_he O hN hj fl_X3_34 dX3_waitOnce_11 ?_
  exact hE _ _ _ dX3_waitOnce_14 rfl
set_option maxHeartbeats 4000000 in
theorem C_X3_putSalt {K : zK} (hI : zInj K) (hN : kN K = 85) (c : CS) (j : Nat) (hj : j < 12) (n am he sa ro fa : Int) (kd sp hu be ea : Int → Int) (hv : okV (n, am, he, sa, ro, fa, kd, sp, hu, be, ea))  : zCv K yX3_putSalt cX3_putSalt 1 1 [.ref (kad K (6 * j + 13))] (layC K (wS c j (n, am, he, sa, ro, fa, kd, sp, hu, be, ea))) (fun u => u = layC K (wS c j (n, am, he, min (sa + 1) 9, ro, fa, kd, sp, hu, be, ea))) := by
  obtain ⟨hn, ham, hhe, hsa, hro, hfa, hm⟩ : (0 ≤ n ∧ n ≤ 7) ∧ (0 ≤ am ∧ am ≤ 99) ∧ (0 ≤ he ∧ he ≤ 9) ∧ (0 ≤ sa ∧ sa ≤ 9) ∧ (1 ≤ ro ∧ ro ≤ 20) ∧ (1 ≤ fa ∧ fa ≤ 20) ∧ ∀ i : Int, 0 ≤ i → i < n → (0 ≤ kd i ∧ kd i ≤ 3) ∧ (1 ≤ sp i ∧ sp i ≤ 9) ∧ (0 ≤ hu i ∧ hu i ≤ 60) ∧ (0 ≤ be i ∧ be i ≤ 9) := hv
  refine zCv_in hI (by decide +kernel) (Nat.le_of_ble_eq_true rfl) (fun X O hE => ?_)
  refine n_aload_n O dX3_putSalt_0 rfl ?_
  refine n_aload_n O dX3_putSalt_1 rfl ?_
  refine s_get_sa O hN hj fl_X3_37 dX3_putSalt_2 ?_
  refine r_iconst O dX3_putSalt_5 ?_
  refine r_iadd O dX3_putSalt_6 ?_
  refine r_bipush O (by decide +kernel) dX3_putSalt_7 ?_
  refine r_min O qm_X3_60 (by decide) (Nat.le_of_ble_eq_true rfl) ⟨by omega, by omega⟩ ⟨by omega, by omega⟩ dX3_putSalt_9 ?_
  refine s_put_sa O hN hj fl_X3_37 dX3_putSalt_12 ?_
  exact hE _ _ _ dX3_putSalt_15 rfl
set_option maxHeartbeats 4000000 in
theorem C_X3_cookTo {K : zK} (hI : zInj K) (hN : kN K = 85) (c : CS) (j : Nat) (hj : j < 12) (n am he sa ro fa : Int) (kd sp hu be ea : Int → Int) (a : Int) : zCv K yX3_cookTo cX3_cookTo 2 0 [.ref (kad K (6 * j + 13)), .int (iI a)] (layC K (wS c j (n, am, he, sa, ro, fa, kd, sp, hu, be, ea))) (fun u => u = layC K (wS c j (n, a, 9, sa, ro, fa, kd, sp, hu, be, ea))) := by
  refine zCv_in hI (by decide +kernel) (Nat.le_of_ble_eq_true rfl) (fun X O hE => ?_)
  refine n_aload_n O dX3_cookTo_0 rfl ?_
  refine n_iload_n O dX3_cookTo_1 rfl ?_
  refine s_put_am O hN hj fl_X3_31 dX3_cookTo_2 ?_
  refine n_aload_n O dX3_cookTo_5 rfl ?_
  refine r_bipush O (by decide +kernel) dX3_cookTo_6 ?_
  refine s_put_he O hN hj fl_X3_34 dX3_cookTo_8 ?_
  exact hE _ _ _ dX3_cookTo_11 rfl
set_option maxHeartbeats 4000000 in
theorem C_X3_clear {K : zK} (hI : zInj K) (hN : kN K = 85) (c : CS) (j : Nat) (hj : j < 12) (n am he sa ro fa : Int) (kd sp hu be ea : Int → Int)  : zCv K yX3_clear cX3_clear 1 0 [.ref (kad K (6 * j + 13))] (layC K (wS c j (n, am, he, sa, ro, fa, kd, sp, hu, be, ea))) (fun u => u = layC K (wS c j (0, 30, 4, 1, 5, 6, kd, sp, hu, be, ea))) := by
  refine zCv_in hI (by decide +kernel) (Nat.le_of_ble_eq_true rfl) (fun X O hE => ?_)
  refine n_aload_n O dX3_clear_0 rfl ?_
  refine r_iconst O dX3_clear_1 ?_
  refine s_put_n O hN hj fl_X3_27 dX3_clear_2 ?_
  refine n_aload_n O dX3_clear_5 rfl ?_
  refine r_bipush O (by decide +kernel) dX3_clear_6 ?_
  refine s_put_am O hN hj fl_X3_31 dX3_clear_8 ?_
  refine n_aload_n O dX3_clear_11 rfl ?_
  refine r_iconst O dX3_clear_12 ?_
  refine s_put_he O hN hj fl_X3_34 dX3_clear_13 ?_
  refine n_aload_n O dX3_clear_16 rfl ?_
  refine r_iconst O dX3_clear_17 ?_
  refine s_put_sa O hN hj fl_X3_37 dX3_clear_18 ?_
  refine n_aload_n O dX3_clear_21 rfl ?_
  refine r_iconst O dX3_clear_22 ?_
  refine s_put_ro O hN hj fl_X3_40 dX3_clear_23 ?_
  refine n_aload_n O dX3_clear_26 rfl ?_
  refine r_bipush O (by decide +kernel) dX3_clear_27 ?_
  refine s_put_fa O hN hj fl_X3_43 dX3_clear_29 ?_
  exact hE _ _ _ dX3_clear_32 rfl
set_option maxHeartbeats 4000000 in
theorem C_X3_exchangeSpoons {K : zK} (hI : zInj K) (hN : kN K = 85) (c : CS) (j : Nat) (hj : j < 12) (n am he sa ro fa : Int) (kd sp hu be ea : Int → Int) (hv : okV (n, am, he, sa, ro, fa, kd, sp, hu, be, ea)) (i k : Int) (h0 : 0 ≤ i) (h1 : i < n) (h2 : 0 ≤ k) (h3 : k < n) : zCv K yX3_exchangeSpoons cX3_exchangeSpoons 5 0 [.ref (kad K (6 * j + 13)), .int (iI i), .int (iI k)] (layC K (wS c j (n, am, he, sa, ro, fa, kd, sp, hu, be, ea))) (fun u => u = layC K (wS c j (n, am, he, sa, ro, fa, uI (uI kd i (kd k)) k (kd i), uI (uI sp i (sp k)) k (sp i), hu, be, ea))) := by
  obtain ⟨hn, ham, hhe, hsa, hro, hfa, hm⟩ : (0 ≤ n ∧ n ≤ 7) ∧ (0 ≤ am ∧ am ≤ 99) ∧ (0 ≤ he ∧ he ≤ 9) ∧ (0 ≤ sa ∧ sa ≤ 9) ∧ (1 ≤ ro ∧ ro ≤ 20) ∧ (1 ≤ fa ∧ fa ≤ 20) ∧ ∀ i : Int, 0 ≤ i → i < n → (0 ≤ kd i ∧ kd i ≤ 3) ∧ (1 ≤ sp i ∧ sp i ≤ 9) ∧ (0 ≤ hu i ∧ hu i ≤ 60) ∧ (0 ≤ be i ∧ be i ≤ 9) := hv
  refine zCv_in hI (by decide +kernel) (Nat.le_of_ble_eq_true rfl) (fun X O hE => ?_)
  refine n_aload_n O dX3_exchangeSpoons_0 rfl ?_
  refine s_arr_kd O hN hj fl_X3_9 dX3_exchangeSpoons_1 ?_
  refine n_iload_n O dX3_exchangeSpoons_4 rfl ?_
  refine s_ld_kd O hN hj (by omega) (by omega) dX3_exchangeSpoons_5 ?_
  refine n_istore_n O dX3_exchangeSpoons_6 (by decide) rfl ?_
  refine n_aload_n O dX3_exchangeSpoons_7 rfl ?_
  refine s_arr_sp O hN hj fl_X3_15 dX3_exchangeSpoons_8 ?_
  refine n_iload_n O dX3_exchangeSpoons_11 rfl ?_
  refine s_ld_sp O hN hj (by omega) (by omega) dX3_exchangeSpoons_12 ?_
  refine n_istore O dX3_exchangeSpoons_13 (by decide) rfl ?_
  refine n_aload_n O dX3_exchangeSpoons_15 rfl ?_
  refine s_arr_kd O hN hj fl_X3_9 dX3_exchangeSpoons_16 ?_
  refine n_iload_n O dX3_exchangeSpoons_19 rfl ?_
  refine n_aload_n O dX3_exchangeSpoons_20 rfl ?_
  refine s_arr_kd O hN hj fl_X3_9 dX3_exchangeSpoons_21 ?_
  refine n_iload_n O dX3_exchangeSpoons_24 rfl ?_
  refine s_ld_kd O hN hj (by omega) (by omega) dX3_exchangeSpoons_25 ?_
  refine s_st_kd O hN hj (by omega) (by omega) dX3_exchangeSpoons_26 ?_
  refine n_aload_n O dX3_exchangeSpoons_27 rfl ?_
  refine s_arr_sp O hN hj fl_X3_15 dX3_exchangeSpoons_28 ?_
  refine n_iload_n O dX3_exchangeSpoons_31 rfl ?_
  refine n_aload_n O dX3_exchangeSpoons_32 rfl ?_
  refine s_arr_sp O hN hj fl_X3_15 dX3_exchangeSpoons_33 ?_
  refine n_iload_n O dX3_exchangeSpoons_36 rfl ?_
  refine s_ld_sp O hN hj (by omega) (by omega) dX3_exchangeSpoons_37 ?_
  refine s_st_sp O hN hj (by omega) (by omega) dX3_exchangeSpoons_38 ?_
  refine n_aload_n O dX3_exchangeSpoons_39 rfl ?_
  refine s_arr_kd O hN hj fl_X3_9 dX3_exchangeSpoons_40 ?_
  refine n_iload_n O dX3_exchangeSpoons_43 rfl ?_
  refine n_iload_n O dX3_exchangeSpoons_44 rfl ?_
  refine s_st_kd O hN hj (by omega) (by omega) dX3_exchangeSpoons_45 ?_
  refine n_aload_n O dX3_exchangeSpoons_46 rfl ?_
  refine s_arr_sp O hN hj fl_X3_15 dX3_exchangeSpoons_47 ?_
  refine n_iload_n O dX3_exchangeSpoons_50 rfl ?_
  refine n_iload O dX3_exchangeSpoons_51 rfl ?_
  refine s_st_sp O hN hj (by omega) (by omega) dX3_exchangeSpoons_53 ?_
  exact hE _ _ _ dX3_exchangeSpoons_54 rfl
