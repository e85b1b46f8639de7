set_option maxHeartbeats 4000000 in
theorem C_X5_isOutside {K : zK} (hI : zInj K) (ct : zE) (a l h : Int) (ha : zB a) (hl : zB l) (hh : zB h) : zCi K yX5_isOutside cX5_isOutside 3 (some .boolean) 0 [.int (iI a), .int (iI l), .int (iI h)] ct (fun z u => z = outV a l h ∧ u = ct) := by
  have ha1 := ha.1
  have ha2 := ha.2
  have hl1 := hl.1
  have hl2 := hl.2
  have hh1 := hh.1
  have hh2 := hh.2
  refine zCi_in hI (by decide +kernel) (Nat.le_of_ble_eq_true rfl) (fun X O hE => ?_)
  refine n_iload_n O dX5_isOutside_0 rfl ?_
  refine n_iload_n O dX5_isOutside_1 rfl ?_
  refine r_icmp_lt (tgt := 10) O ⟨by omega, by omega⟩ ⟨by omega, by omega⟩ dX5_isOutside_2 (by decide) (fun hc2 => ?_) (fun hc2 => ?_)
  · skip
    refine r_iconst O dX5_isOutside_10 ?_
    refine r_goto (tgt := 15) O dX5_isOutside_11 (by decide) ?_
    exact hE _ _ _ _ dX5_isOutside_15 (nar01 (by omega)) ⟨by unfold outV; split <;> omega, rfl⟩
  · skip
    refine n_iload_n O dX5_isOutside_5 rfl ?_
    refine n_iload_n O dX5_isOutside_6 rfl ?_
    refine r_icmp_le (tgt := 14) O ⟨by omega, by omega⟩ ⟨by omega, by omega⟩ dX5_isOutside_7 (by decide) (fun hc7 => ?_) (fun hc7 => ?_)
    · skip
      refine r_iconst O dX5_isOutside_14 ?_
      exact hE _ _ _ _ dX5_isOutside_15 (nar01 (by omega)) ⟨by unfold outV; split <;> omega, rfl⟩
    · skip
      refine r_iconst O dX5_isOutside_10 ?_
      refine r_goto (tgt := 15) O dX5_isOutside_11 (by decide) ?_
      exact hE _ _ _ _ dX5_isOutside_15 (nar01 (by omega)) ⟨by unfold outV; split <;> omega, rfl⟩
set_option maxHeartbeats 4000000 in
theorem C_X3_hottestFor {K : zK} (hI : zInj K) (ct : zE) (k : Int) (hk : zB k) : zCi K yX3_hottestFor cX3_hottestFor 1 (some .int) 0 [.int (iI k)] ct (fun z u => z = hotV k ∧ u = ct) := by
  have hk1 := hk.1
  have hk2 := hk.2
  refine zCi_in hI (by decide +kernel) (Nat.le_of_ble_eq_true rfl) (fun X O hE => ?_)
  refine n_iload_n O dX3_hottestFor_0 rfl ?_
  have hsw : k < 1 ∨ 3 < k ∨ k = 1 ∨ k = 2 ∨ k = 3 := by omega
  rcases hsw with hsw | hsw | hsw | hsw | hsw
  · skip
    refine r_tabOut (tgt := 36) O ⟨by omega, by omega⟩ dX3_hottestFor_1 (Or.inl hsw) (by decide) ?_
    refine r_bipush O (by decide +kernel) dX3_hottestFor_36 ?_
    exact hE _ _ _ _ dX3_hottestFor_38 rfl ⟨by unfold hotV; split <;> (try split) <;> (try split) <;> omega, rfl⟩
  · skip
    refine r_tabOut (tgt := 36) O ⟨by omega, by omega⟩ dX3_hottestFor_1 (Or.inr hsw) (by decide) ?_
    refine r_bipush O (by decide +kernel) dX3_hottestFor_36 ?_
    exact hE _ _ _ _ dX3_hottestFor_38 rfl ⟨by unfold hotV; split <;> (try split) <;> (try split) <;> omega, rfl⟩
  · skip
    refine r_tabIn (off := 27) (tgt := 28) O ⟨by omega, by omega⟩ dX3_hottestFor_1 (by omega) (by omega) (by rw [hsw]; rfl) (by decide) ?_
    refine r_iconst O dX3_hottestFor_28 ?_
    exact hE _ _ _ _ dX3_hottestFor_29 rfl ⟨by unfold hotV; split <;> (try split) <;> (try split) <;> omega, rfl⟩
  · skip
    refine r_tabIn (off := 29) (tgt := 30) O ⟨by omega, by omega⟩ dX3_hottestFor_1 (by omega) (by omega) (by rw [hsw]; rfl) (by decide) ?_
    refine r_bipush O (by decide +kernel) dX3_hottestFor_30 ?_
    exact hE _ _ _ _ dX3_hottestFor_32 rfl ⟨by unfold hotV; split <;> (try split) <;> (try split) <;> omega, rfl⟩
  · skip
    refine r_tabIn (off := 32) (tgt := 33) O ⟨by omega, by omega⟩ dX3_hottestFor_1 (by omega) (by omega) (by rw [hsw]; rfl) (by decide) ?_
    refine r_bipush O (by decide +kernel) dX3_hottestFor_33 ?_
    exact hE _ _ _ _ dX3_hottestFor_35 rfl ⟨by unfold hotV; split <;> (try split) <;> (try split) <;> omega, rfl⟩
set_option maxHeartbeats 4000000 in
theorem C_X3_spoonful {K : zK} (hI : zInj K) (hN : kN K = 85) (c : CS) (j : Nat) (hj : j < 12) (n am he sa ro fa : Int) (kd sp hu be ea : Int → Int) (hv : okV (n, am, he, sa, ro, fa, kd, sp, hu, be, ea)) (i h : Int) (h0 : 0 ≤ i) (h1 : i < n) (hh : zB h) : zCi K yX3_spoonful cX3_spoonful 3 (some .int) 1 [.ref (kad K (6 * j + 13)), .int (iI i), .int (iI h)] (layC K (wS c j (n, am, he, sa, ro, fa, kd, sp, hu, be, ea))) (fun z u => z = spoonV sa h (kd i) (sp i) (be i) ∧ u = (layC K (wS c j (n, am, he, sa, ro, fa, kd, sp, hu, be, ea)))) := by
  obtain ⟨hn, ham, hhe, hsa, hro, hfa, hm⟩ : (0 ≤ n ∧ n ≤ 7) ∧ (0 ≤ am ∧ am ≤ 99) ∧ (0 ≤ he ∧ he ≤ 9) ∧ (0 ≤ sa ∧ sa ≤ 9) ∧ (1 ≤ ro ∧ ro ≤ 20) ∧ (1 ≤ fa ∧ fa ≤ 20) ∧ ∀ i : Int, 0 ≤ i → i < n → okM (kd i) (sp i) (hu i) (be i) := id hv
  have hi : (0 ≤ kd i ∧ kd i ≤ 3) ∧ (1 ≤ sp i ∧ sp i ≤ 9) ∧ (0 ≤ hu i ∧ hu i ≤ 60) ∧ (0 ≤ be i ∧ be i ≤ 9) := hm i h0 h1
  have hb := hotV_b (kd i)
  have hh1 := hh.1
  have hh2 := hh.2
  refine zCi_in hI (by decide +kernel) (Nat.le_of_ble_eq_true rfl) (fun X O hE => ?_)
  refine n_aload_n O dX3_spoonful_0 rfl ?_
  refine s_get_sa O hN hj fl_X3_37 dX3_spoonful_1 ?_
  refine n_aload_n O dX3_spoonful_4 rfl ?_
  refine s_arr_be O hN hj fl_X3_21 dX3_spoonful_5 ?_
  refine n_iload_n O dX3_spoonful_8 rfl ?_
  refine s_ld_be O hN hj (by omega) (by omega) dX3_spoonful_9 ?_
  refine r_icmp_gt (tgt := 26) O ⟨by omega, by omega⟩ ⟨by omega, by omega⟩ dX3_spoonful_10 (by decide) (fun hc10 => ?_) (fun hc10 => ?_)
  · skip
    refine r_iconst O dX3_spoonful_26 ?_
    exact hE _ _ _ _ dX3_spoonful_27 rfl ⟨by unfold spoonV; split <;> (try split) <;> (try split) <;> omega, rfl⟩
  · skip
    refine n_iload_n O dX3_spoonful_13 rfl ?_
    refine n_aload_n O dX3_spoonful_14 rfl ?_
    refine s_arr_kd O hN hj fl_X3_9 dX3_spoonful_15 ?_
    refine n_iload_n O dX3_spoonful_18 rfl ?_
    refine s_ld_kd O hN hj (by omega) (by omega) dX3_spoonful_19 ?_
    refine r_callS1i O (C_X3_hottestFor hI _ _ ⟨by omega, by omega⟩) q_X3_65 (by decide) (by decide) (Nat.le_of_ble_eq_true rfl) dX3_spoonful_20 (fun zz20 zu20 hz20 => ?_)
    obtain ⟨rfl, rfl⟩ := hz20
    refine r_icmp_le (tgt := 28) O ⟨by omega, by omega⟩ ⟨by omega, by omega⟩ dX3_spoonful_23 (by decide) (fun hc23 => ?_) (fun hc23 => ?_)
    · skip
      refine n_aload_n O dX3_spoonful_28 rfl ?_
      refine s_arr_kd O hN hj fl_X3_9 dX3_spoonful_29 ?_
      refine n_iload_n O dX3_spoonful_32 rfl ?_
      refine s_ld_kd O hN hj (by omega) (by omega) dX3_spoonful_33 ?_
      have hsw : kd i = 2 ∨ kd i = 3 ∨ (kd i ≠ 2 ∧ kd i ≠ 3) := by omega
      rcases hsw with hsw | hsw | hsw
      · skip
        refine r_look (off := 26) (tgt := 60) O ⟨by omega, by omega⟩ dX3_spoonful_34 (by decide) (by rw [hsw]; decide) (by decide) ?_
        refine r_iconst O dX3_spoonful_60 ?_
        refine n_aload_n O dX3_spoonful_61 rfl ?_
        refine s_arr_sp O hN hj fl_X3_15 dX3_spoonful_62 ?_
        refine n_iload_n O dX3_spoonful_65 rfl ?_
        refine s_ld_sp O hN hj (by omega) (by omega) dX3_spoonful_66 ?_
        refine r_imul O dX3_spoonful_67 ?_
        exact hE _ _ _ _ dX3_spoonful_68 rfl ⟨by unfold spoonV; split <;> (try split) <;> (try split) <;> omega, rfl⟩
      · skip
        refine r_look (off := 35) (tgt := 69) O ⟨by omega, by omega⟩ dX3_spoonful_34 (by decide) (by rw [hsw]; decide) (by decide) ?_
        refine r_iconst O dX3_spoonful_69 ?_
        exact hE _ _ _ _ dX3_spoonful_70 rfl ⟨by unfold spoonV; split <;> (try split) <;> (try split) <;> omega, rfl⟩
      · skip
        refine r_look (off := 37) (tgt := 71) O ⟨by omega, by omega⟩ dX3_spoonful_34 (by decide) (by simp only [Op.lookupswitch.offset]; repeat rw [if_neg (by omega)]) (by decide) ?_
        refine n_aload_n O dX3_spoonful_71 rfl ?_
        refine s_arr_sp O hN hj fl_X3_15 dX3_spoonful_72 ?_
        refine n_iload_n O dX3_spoonful_75 rfl ?_
        refine s_ld_sp O hN hj (by omega) (by omega) dX3_spoonful_76 ?_
        exact hE _ _ _ _ dX3_spoonful_77 rfl ⟨by unfold spoonV; split <;> (try split) <;> (try split) <;> omega, rfl⟩
    · skip
      refine r_iconst O dX3_spoonful_26 ?_
      exact hE _ _ _ _ dX3_spoonful_27 rfl ⟨by unfold spoonV; split <;> (try split) <;> (try split) <;> omega, rfl⟩
set_option maxHeartbeats 4000000 in
theorem C_X3_share {K : zK} (hI : zInj K) (hN : kN K = 85) (c : CS) (j : Nat) (hj : j < 12) (n am he sa ro fa : Int) (kd sp hu be ea : Int → Int) (hv : okV (n, am, he, sa, ro, fa, kd, sp, hu, be, ea)) (i : Int) (h0 : 0 ≤ i) (h1 : i < n) : zCi K yX3_share cX3_share 2 (some .int) 2 [.ref (kad K (6 * j + 13)), .int (iI i)] (layC K (wS c j (n, am, he, sa, ro, fa, kd, sp, hu, be, ea))) (fun z u => z = shareV (n, am, he, sa, ro, fa, kd, sp, hu, be, ea) i ∧ u = (layC K (wS c j (n, am, he, sa, ro, fa, kd, sp, hu, be, ea)))) := by
  obtain ⟨hn, ham, hhe, hsa, hro, hfa, hm⟩ : (0 ≤ n ∧ n ≤ 7) ∧ (0 ≤ am ∧ am ≤ 99) ∧ (0 ≤ he ∧ he ≤ 9) ∧ (0 ≤ sa ∧ sa ≤ 9) ∧ (1 ≤ ro ∧ ro ≤ 20) ∧ (1 ≤ fa ∧ fa ≤ 20) ∧ ∀ i : Int, 0 ≤ i → i < n → okM (kd i) (sp i) (hu i) (be i) := id hv
  have hi : (0 ≤ kd i ∧ kd i ≤ 3) ∧ (1 ≤ sp i ∧ sp i ≤ 9) ∧ (0 ≤ hu i ∧ hu i ≤ 60) ∧ (0 ≤ be i ∧ be i ≤ 9) := hm i h0 h1
  have hb := spoonV_b (sa := sa) (he := he) (k := kd i) (be := be i) hi.2.1
  refine zCi_in hI (by decide +kernel) (Nat.le_of_ble_eq_true rfl) (fun X O hE => ?_)
  refine n_aload_n O dX3_share_0 rfl ?_
  refine n_iload_n O dX3_share_1 rfl ?_
  refine n_aload_n O dX3_share_2 rfl ?_
  refine s_get_he O hN hj fl_X3_34 dX3_share_3 ?_
  refine r_callV2i O (C_X3_spoonful hI hN _ _ hj _ _ _ _ _ _ _ _ _ _ _ hv _ _ (by omega) (by omega) ⟨by omega, by omega⟩) q_X3_56 (by rw [hN]; omega) (lay_q K _ _ _ 0 (by omega) (by decide) rfl) rfl rfl (by decide) (by decide) (Nat.le_of_ble_eq_true rfl) dX3_share_6 (fun zz6 zu6 hz6 => ?_)
  obtain ⟨rfl, rfl⟩ := hz6
  refine n_aload_n O dX3_share_9 rfl ?_
  refine s_arr_hu O hN hj fl_X3_18 dX3_share_10 ?_
  refine n_iload_n O dX3_share_13 rfl ?_
  refine s_ld_hu O hN hj (by omega) (by omega) dX3_share_14 ?_
  refine r_min O qm_X3_60 (by decide) (Nat.le_of_ble_eq_true rfl) ⟨by omega, by omega⟩ ⟨by omega, by omega⟩ dX3_share_15 ?_
  refine n_aload_n O dX3_share_18 rfl ?_
  refine s_get_am O hN hj fl_X3_31 dX3_share_19 ?_
  refine r_min O qm_X3_60 (by decide) (Nat.le_of_ble_eq_true rfl) ⟨by omega, by omega⟩ ⟨by omega, by omega⟩ dX3_share_22 ?_
  exact hE _ _ _ _ dX3_share_25 rfl ⟨rfl, rfl⟩
theorem D_X3_share {K : zK} (hI : zInj K) (hN : kN K = 85) (c : CS) (j : Nat) (hj : j < 12) (v : SV) (hv : okV v) (i : Int) (h0 : 0 ≤ i) (h1 : i < qn v) : zCi K yX3_share cX3_share 2 (some .int) 2 [.ref (kad K (6 * j + 13)), .int (iI i)] (layC K (wS c j v)) (fun z u => z = shareV v i ∧ u = layC K (wS c j v)) := by
  obtain ⟨n, am, he, sa, ro, fa, kd, sp, hu, be, ea⟩ := v
  exact C_X3_share hI hN c j hj n am he sa ro fa kd sp hu be ea hv i h0 h1
set_option maxHeartbeats 4000000 in
theorem C_X3_waitOnce {K : zK} (hI : zInj K) (hN : kN K = 85) (c : CS) (j : Nat) (hj : j < 12) (n am he sa ro fa : Int) (kd sp hu be ea : Int → Int) (hv : okV (n, am, he, sa, ro, fa, kd, sp, hu, be, ea))  : zCv K yX3_waitOnce cX3_waitOnce 1 1 [.ref (kad K (6 * j + 13))] (layC K (wS c j (n, am, he, sa, ro, fa, kd, sp, hu, be, ea))) (fun u => u = layC K (wS c j (n, am, max (he - 1) 0, sa, ro, fa, kd, sp, hu, be, ea))) := by
  obtain ⟨hn, ham, hhe, hsa, hro, hfa, hm⟩ : (0 ≤ n ∧ n ≤ 7) ∧ (0 ≤ am ∧ am ≤ 99) ∧ (0 ≤ he ∧ he ≤ 9) ∧ (0 ≤ sa ∧ sa ≤ 9) ∧ (1 ≤ ro ∧ ro ≤ 20) ∧ (1 ≤ fa ∧ fa ≤ 20) ∧ ∀ i : Int, 0 ≤ i → i < n → okM (kd i) (sp i) (hu i) (be i) := id hv
  refine zCv_in hI (by decide +kernel) (Nat.le_of_ble_eq_true rfl) (fun X O hE => ?_)
  refine n_aload_n O dX3_waitOnce_0 rfl ?_
  refine n_aload_n O dX3_waitOnce_1 rfl ?_
  refine s_get_he O hN hj fl_X3_34 dX3_waitOnce_2 ?_
  refine r_iconst O dX3_waitOnce_5 ?_
  refine r_isub O dX3_waitOnce_6 ?_
  refine r_iconst O dX3_waitOnce_7 ?_
  refine r_max O qm_X3_85 (by decide) (Nat.le_of_ble_eq_true rfl) ⟨by omega, by omega⟩ ⟨by omega, by omega⟩ dX3_waitOnce_8 ?_
  refine s_put_he O hN hj fl_X3_34 dX3_waitOnce_11 ?_
  exact hE _ _ _ dX3_waitOnce_14 rfl
theorem D_X3_waitOnce {K : zK} (hI : zInj K) (hN : kN K = 85) (c : CS) (j : Nat) (hj : j < 12) (v : SV) (hv : okV v)  : zCv K yX3_waitOnce cX3_waitOnce 1 1 [.ref (kad K (6 * j + 13))] (layC K (wS c j v)) (fun u => u = layC K (wS c j (waitV v))) := by
  obtain ⟨n, am, he, sa, ro, fa, kd, sp, hu, be, ea⟩ := v
  exact C_X3_waitOnce hI hN c j hj n am he sa ro fa kd sp hu be ea hv 
set_option maxHeartbeats 4000000 in
theorem C_X3_putSalt {K : zK} (hI : zInj K) (hN : kN K = 85) (c : CS) (j : Nat) (hj : j < 12) (n am he sa ro fa : Int) (kd sp hu be ea : Int → Int) (hv : okV (n, am, he, sa, ro, fa, kd, sp, hu, be, ea))  : zCv K yX3_putSalt cX3_putSalt 1 1 [.ref (kad K (6 * j + 13))] (layC K (wS c j (n, am, he, sa, ro, fa, kd, sp, hu, be, ea))) (fun u => u = layC K (wS c j (n, am, he, min (sa + 1) 9, ro, fa, kd, sp, hu, be, ea))) := by
  obtain ⟨hn, ham, hhe, hsa, hro, hfa, hm⟩ : (0 ≤ n ∧ n ≤ 7) ∧ (0 ≤ am ∧ am ≤ 99) ∧ (0 ≤ he ∧ he ≤ 9) ∧ (0 ≤ sa ∧ sa ≤ 9) ∧ (1 ≤ ro ∧ ro ≤ 20) ∧ (1 ≤ fa ∧ fa ≤ 20) ∧ ∀ i : Int, 0 ≤ i → i < n → okM (kd i) (sp i) (hu i) (be i) := id hv
  refine zCv_in hI (by decide +kernel) (Nat.le_of_ble_eq_true rfl) (fun X O hE => ?_)
  refine n_aload_n O dX3_putSalt_0 rfl ?_
  refine n_aload_n O dX3_putSalt_1 rfl ?_
  refine s_get_sa O hN hj fl_X3_37 dX3_putSalt_2 ?_
  refine r_iconst O dX3_putSalt_5 ?_
  refine r_iadd O dX3_putSalt_6 ?_
  refine r_bipush O (by decide +kernel) dX3_putSalt_7 ?_
  refine r_min O qm_X3_60 (by decide) (Nat.le_of_ble_eq_true rfl) ⟨by omega, by omega⟩ ⟨by omega, by omega⟩ dX3_putSalt_9 ?_
  refine s_put_sa O hN hj fl_X3_37 dX3_putSalt_12 ?_
  exact hE _ _ _ dX3_putSalt_15 rfl
theorem D_X3_putSalt {K : zK} (hI : zInj K) (hN : kN K = 85) (c : CS) (j : Nat) (hj : j < 12) (v : SV) (hv : okV v)  : zCv K yX3_putSalt cX3_putSalt 1 1 [.ref (kad K (6 * j + 13))] (layC K (wS c j v)) (fun u => u = layC K (wS c j (saltV v))) := by
  obtain ⟨n, am, he, sa, ro, fa, kd, sp, hu, be, ea⟩ := v
  exact C_X3_putSalt hI hN c j hj n am he sa ro fa kd sp hu be ea hv 
set_option maxHeartbeats 4000000 in
theorem C_X3_cookTo {K : zK} (hI : zInj K) (hN : kN K = 85) (c : CS) (j : Nat) (hj : j < 12) (n am he sa ro fa : Int) (kd sp hu be ea : Int → Int) (a : Int) : zCv K yX3_cookTo cX3_cookTo 2 0 [.ref (kad K (6 * j + 13)), .int (iI a)] (layC K (wS c j (n, am, he, sa, ro, fa, kd, sp, hu, be, ea))) (fun u => u = layC K (wS c j (n, a, 9, sa, ro, fa, kd, sp, hu, be, ea))) := by
  refine zCv_in hI (by decide +kernel) (Nat.le_of_ble_eq_true rfl) (fun X O hE => ?_)
  refine n_aload_n O dX3_cookTo_0 rfl ?_
  refine n_iload_n O dX3_cookTo_1 rfl ?_
  refine s_put_am O hN hj fl_X3_31 dX3_cookTo_2 ?_
  refine n_aload_n O dX3_cookTo_5 rfl ?_
  refine r_bipush O (by decide +kernel) dX3_cookTo_6 ?_
  refine s_put_he O hN hj fl_X3_34 dX3_cookTo_8 ?_
  exact hE _ _ _ dX3_cookTo_11 rfl
theorem D_X3_cookTo {K : zK} (hI : zInj K) (hN : kN K = 85) (c : CS) (j : Nat) (hj : j < 12) (v : SV) (a : Int) : zCv K yX3_cookTo cX3_cookTo 2 0 [.ref (kad K (6 * j + 13)), .int (iI a)] (layC K (wS c j v)) (fun u => u = layC K (wS c j (cookV v a))) := by
  obtain ⟨n, am, he, sa, ro, fa, kd, sp, hu, be, ea⟩ := v
  exact C_X3_cookTo hI hN c j hj n am he sa ro fa kd sp hu be ea a
set_option maxHeartbeats 4000000 in
theorem C_X3_clear {K : zK} (hI : zInj K) (hN : kN K = 85) (c : CS) (j : Nat) (hj : j < 12) (n am he sa ro fa : Int) (kd sp hu be ea : Int → Int)  : zCv K yX3_clear cX3_clear 1 0 [.ref (kad K (6 * j + 13))] (layC K (wS c j (n, am, he, sa, ro, fa, kd, sp, hu, be, ea))) (fun u => u = layC K (wS c j (0, 30, 4, 1, 5, 6, kd, sp, hu, be, ea))) := by
  refine zCv_in hI (by decide +kernel) (Nat.le_of_ble_eq_true rfl) (fun X O hE => ?_)
  refine n_aload_n O dX3_clear_0 rfl ?_
  refine r_iconst O dX3_clear_1 ?_
  refine s_put_n O hN hj fl_X3_27 dX3_clear_2 ?_
  refine n_aload_n O dX3_clear_5 rfl ?_
  refine r_bipush O (by decide +kernel) dX3_clear_6 ?_
  refine s_put_am O hN hj fl_X3_31 dX3_clear_8 ?_
  refine n_aload_n O dX3_clear_11 rfl ?_
  refine r_iconst O dX3_clear_12 ?_
  refine s_put_he O hN hj fl_X3_34 dX3_clear_13 ?_
  refine n_aload_n O dX3_clear_16 rfl ?_
  refine r_iconst O dX3_clear_17 ?_
  refine s_put_sa O hN hj fl_X3_37 dX3_clear_18 ?_
  refine n_aload_n O dX3_clear_21 rfl ?_
  refine r_iconst O dX3_clear_22 ?_
  refine s_put_ro O hN hj fl_X3_40 dX3_clear_23 ?_
  refine n_aload_n O dX3_clear_26 rfl ?_
  refine r_bipush O (by decide +kernel) dX3_clear_27 ?_
  refine s_put_fa O hN hj fl_X3_43 dX3_clear_29 ?_
  exact hE _ _ _ dX3_clear_32 rfl
theorem D_X3_clear {K : zK} (hI : zInj K) (hN : kN K = 85) (c : CS) (j : Nat) (hj : j < 12) (v : SV)  : zCv K yX3_clear cX3_clear 1 0 [.ref (kad K (6 * j + 13))] (layC K (wS c j v)) (fun u => u = layC K (wS c j (clearV v))) := by
  obtain ⟨n, am, he, sa, ro, fa, kd, sp, hu, be, ea⟩ := v
  exact C_X3_clear hI hN c j hj n am he sa ro fa kd sp hu be ea 
set_option maxHeartbeats 4000000 in
theorem C_X3_exchangeSpoons {K : zK} (hI : zInj K) (hN : kN K = 85) (c : CS) (j : Nat) (hj : j < 12) (n am he sa ro fa : Int) (kd sp hu be ea : Int → Int) (hv : okV (n, am, he, sa, ro, fa, kd, sp, hu, be, ea)) (i k : Int) (h0 : 0 ≤ i) (h1 : i < n) (h2 : 0 ≤ k) (h3 : k < n) : zCv K yX3_exchangeSpoons cX3_exchangeSpoons 5 0 [.ref (kad K (6 * j + 13)), .int (iI i), .int (iI k)] (layC K (wS c j (n, am, he, sa, ro, fa, kd, sp, hu, be, ea))) (fun u => u = layC K (wS c j (n, am, he, sa, ro, fa, uI (uI kd i (kd k)) k (kd i), uI (uI sp i (sp k)) k (sp i), hu, be, ea))) := by
  obtain ⟨hn, ham, hhe, hsa, hro, hfa, hm⟩ : (0 ≤ n ∧ n ≤ 7) ∧ (0 ≤ am ∧ am ≤ 99) ∧ (0 ≤ he ∧ he ≤ 9) ∧ (0 ≤ sa ∧ sa ≤ 9) ∧ (1 ≤ ro ∧ ro ≤ 20) ∧ (1 ≤ fa ∧ fa ≤ 20) ∧ ∀ i : Int, 0 ≤ i → i < n → okM (kd i) (sp i) (hu i) (be i) := id hv
  refine zCv_in hI (by decide +kernel) (Nat.le_of_ble_eq_true rfl) (fun X O hE => ?_)
  refine n_aload_n O dX3_exchangeSpoons_0 rfl ?_
  refine s_arr_kd O hN hj fl_X3_9 dX3_exchangeSpoons_1 ?_
  refine n_iload_n O dX3_exchangeSpoons_4 rfl ?_
  refine s_ld_kd O hN hj (by omega) (by omega) dX3_exchangeSpoons_5 ?_
  refine n_istore_n O dX3_exchangeSpoons_6 (by decide) rfl ?_
  refine n_aload_n O dX3_exchangeSpoons_7 rfl ?_
  refine s_arr_sp O hN hj fl_X3_15 dX3_exchangeSpoons_8 ?_
  refine n_iload_n O dX3_exchangeSpoons_11 rfl ?_
  refine s_ld_sp O hN hj (by omega) (by omega) dX3_exchangeSpoons_12 ?_
  refine n_istore O dX3_exchangeSpoons_13 (by decide) rfl ?_
  refine n_aload_n O dX3_exchangeSpoons_15 rfl ?_
  refine s_arr_kd O hN hj fl_X3_9 dX3_exchangeSpoons_16 ?_
  refine n_iload_n O dX3_exchangeSpoons_19 rfl ?_
  refine n_aload_n O dX3_exchangeSpoons_20 rfl ?_
  refine s_arr_kd O hN hj fl_X3_9 dX3_exchangeSpoons_21 ?_
  refine n_iload_n O dX3_exchangeSpoons_24 rfl ?_
  refine s_ld_kd O hN hj (by omega) (by omega) dX3_exchangeSpoons_25 ?_
  refine s_st_kd O hN hj (by omega) (by omega) dX3_exchangeSpoons_26 ?_
  refine n_aload_n O dX3_exchangeSpoons_27 rfl ?_
  refine s_arr_sp O hN hj fl_X3_15 dX3_exchangeSpoons_28 ?_
  refine n_iload_n O dX3_exchangeSpoons_31 rfl ?_
  refine n_aload_n O dX3_exchangeSpoons_32 rfl ?_
  refine s_arr_sp O hN hj fl_X3_15 dX3_exchangeSpoons_33 ?_
  refine n_iload_n O dX3_exchangeSpoons_36 rfl ?_
  refine s_ld_sp O hN hj (by omega) (by omega) dX3_exchangeSpoons_37 ?_
  refine s_st_sp O hN hj (by omega) (by omega) dX3_exchangeSpoons_38 ?_
  refine n_aload_n O dX3_exchangeSpoons_39 rfl ?_
  refine s_arr_kd O hN hj fl_X3_9 dX3_exchangeSpoons_40 ?_
  refine n_iload_n O dX3_exchangeSpoons_43 rfl ?_
  refine n_iload_n O dX3_exchangeSpoons_44 rfl ?_
  refine s_st_kd O hN hj (by omega) (by omega) dX3_exchangeSpoons_45 ?_
  refine n_aload_n O dX3_exchangeSpoons_46 rfl ?_
  refine s_arr_sp O hN hj fl_X3_15 dX3_exchangeSpoons_47 ?_
  refine n_iload_n O dX3_exchangeSpoons_50 rfl ?_
  refine n_iload O dX3_exchangeSpoons_51 rfl ?_
  refine s_st_sp O hN hj (by omega) (by omega) dX3_exchangeSpoons_53 ?_
  exact hE _ _ _ dX3_exchangeSpoons_54 rfl
theorem D_X3_exchangeSpoons {K : zK} (hI : zInj K) (hN : kN K = 85) (c : CS) (j : Nat) (hj : j < 12) (v : SV) (hv : okV v) (i k : Int) (h0 : 0 ≤ i) (h1 : i < qn v) (h2 : 0 ≤ k) (h3 : k < qn v) : zCv K yX3_exchangeSpoons cX3_exchangeSpoons 5 0 [.ref (kad K (6 * j + 13)), .int (iI i), .int (iI k)] (layC K (wS c j v)) (fun u => u = layC K (wS c j (exchV v i k))) := by
  obtain ⟨n, am, he, sa, ro, fa, kd, sp, hu, be, ea⟩ := v
  exact C_X3_exchangeSpoons hI hN c j hj n am he sa ro fa kd sp hu be ea hv i k h0 h1 h2 h3
set_option maxHeartbeats 4000000 in
theorem C_X3_takeOver {K : zK} (hI : zInj K) (hN : kN K = 85) (c : CS) (j : Nat) (hj : j < 12) (n am he sa ro fa : Int) (kd sp hu be ea : Int → Int) (i : Nat) (hi : i < 12) (hne : i ≠ j) : zCv K yX3_takeOver cX3_takeOver 2 1 [.ref (kad K (6 * j + 13)), .ref (kad K (6 * i + 13))] (layC K (wS c j (n, am, he, sa, ro, fa, kd, sp, hu, be, ea))) (fun u => u = layC K (wS c j (cpV (c.1 i) (n, am, he, sa, ro, fa, kd, sp, hu, be, ea)))) := by
  obtain ⟨w, hcu⟩ : ∃ w, c.1 i = w := ⟨_, rfl⟩
  refine zCv_in hI (by decide +kernel) (Nat.le_of_ble_eq_true rfl) (fun X O hE => ?_)
  refine n_aload_n O dX3_takeOver_0 rfl ?_
  refine t_arr_kd O hN hi fl_X3_9 dX3_takeOver_1 ?_
  refine r_iconst O dX3_takeOver_4 ?_
  refine n_aload_n O dX3_takeOver_5 rfl ?_
  refine s_arr_kd O hN hj fl_X3_9 dX3_takeOver_6 ?_
  refine r_iconst O dX3_takeOver_9 ?_
  refine r_bipush O (by decide +kernel) dX3_takeOver_10 ?_
  refine o_copy_kd O hN hj hi hne hcu qc_X3_50 (by decide) (Nat.le_of_ble_eq_true rfl) dX3_takeOver_12 ?_
  refine n_aload_n O dX3_takeOver_15 rfl ?_
  refine t_arr_sp O hN hi fl_X3_15 dX3_takeOver_16 ?_
  refine r_iconst O dX3_takeOver_19 ?_
  refine n_aload_n O dX3_takeOver_20 rfl ?_
  refine s_arr_sp O hN hj fl_X3_15 dX3_takeOver_21 ?_
  refine r_iconst O dX3_takeOver_24 ?_
  refine r_bipush O (by decide +kernel) dX3_takeOver_25 ?_
  refine o_copy_sp O hN hj hi hne hcu qc_X3_50 (by decide) (Nat.le_of_ble_eq_true rfl) dX3_takeOver_27 ?_
  refine n_aload_n O dX3_takeOver_30 rfl ?_
  refine t_arr_hu O hN hi fl_X3_18 dX3_takeOver_31 ?_
  refine r_iconst O dX3_takeOver_34 ?_
  refine n_aload_n O dX3_takeOver_35 rfl ?_
  refine s_arr_hu O hN hj fl_X3_18 dX3_takeOver_36 ?_
  refine r_iconst O dX3_takeOver_39 ?_
  refine r_bipush O (by decide +kernel) dX3_takeOver_40 ?_
  refine o_copy_hu O hN hj hi hne hcu qc_X3_50 (by decide) (Nat.le_of_ble_eq_true rfl) dX3_takeOver_42 ?_
  refine n_aload_n O dX3_takeOver_45 rfl ?_
  refine t_arr_be O hN hi fl_X3_21 dX3_takeOver_46 ?_
  refine r_iconst O dX3_takeOver_49 ?_
  refine n_aload_n O dX3_takeOver_50 rfl ?_
  refine s_arr_be O hN hj fl_X3_21 dX3_takeOver_51 ?_
  refine r_iconst O dX3_takeOver_54 ?_
  refine r_bipush O (by decide +kernel) dX3_takeOver_55 ?_
  refine o_copy_be O hN hj hi hne hcu qc_X3_50 (by decide) (Nat.le_of_ble_eq_true rfl) dX3_takeOver_57 ?_
  refine n_aload_n O dX3_takeOver_60 rfl ?_
  refine t_arr_ea O hN hi fl_X3_24 dX3_takeOver_61 ?_
  refine r_iconst O dX3_takeOver_64 ?_
  refine n_aload_n O dX3_takeOver_65 rfl ?_
  refine s_arr_ea O hN hj fl_X3_24 dX3_takeOver_66 ?_
  refine r_iconst O dX3_takeOver_69 ?_
  refine r_bipush O (by decide +kernel) dX3_takeOver_70 ?_
  refine o_copy_ea O hN hj hi hne hcu qc_X3_50 (by decide) (Nat.le_of_ble_eq_true rfl) dX3_takeOver_72 ?_
  refine n_aload_n O dX3_takeOver_75 rfl ?_
  refine n_aload_n O dX3_takeOver_76 rfl ?_
  refine o_get_n O hN hi hne hcu fl_X3_27 dX3_takeOver_77 ?_
  refine s_put_n O hN hj fl_X3_27 dX3_takeOver_80 ?_
  refine n_aload_n O dX3_takeOver_83 rfl ?_
  refine n_aload_n O dX3_takeOver_84 rfl ?_
  refine o_get_am O hN hi hne hcu fl_X3_31 dX3_takeOver_85 ?_
  refine s_put_am O hN hj fl_X3_31 dX3_takeOver_88 ?_
  refine n_aload_n O dX3_takeOver_91 rfl ?_
  refine n_aload_n O dX3_takeOver_92 rfl ?_
  refine o_get_he O hN hi hne hcu fl_X3_34 dX3_takeOver_93 ?_
  refine s_put_he O hN hj fl_X3_34 dX3_takeOver_96 ?_
  refine n_aload_n O dX3_takeOver_99 rfl ?_
  refine n_aload_n O dX3_takeOver_100 rfl ?_
  refine o_get_sa O hN hi hne hcu fl_X3_37 dX3_takeOver_101 ?_
  refine s_put_sa O hN hj fl_X3_37 dX3_takeOver_104 ?_
  refine n_aload_n O dX3_takeOver_107 rfl ?_
  refine n_aload_n O dX3_takeOver_108 rfl ?_
  refine o_get_ro O hN hi hne hcu fl_X3_40 dX3_takeOver_109 ?_
  refine s_put_ro O hN hj fl_X3_40 dX3_takeOver_112 ?_
  refine n_aload_n O dX3_takeOver_115 rfl ?_
  refine n_aload_n O dX3_takeOver_116 rfl ?_
  refine o_get_fa O hN hi hne hcu fl_X3_43 dX3_takeOver_117 ?_
  refine s_put_fa O hN hj fl_X3_43 dX3_takeOver_120 ?_
  exact hE _ _ _ dX3_takeOver_123 (by rw [hcu]; rfl)
theorem D_X3_takeOver {K : zK} (hI : zInj K) (hN : kN K = 85) (c : CS) (j : Nat) (hj : j < 12) (v : SV) (i : Nat) (hi : i < 12) (hne : i ≠ j) : zCv K yX3_takeOver cX3_takeOver 2 1 [.ref (kad K (6 * j + 13)), .ref (kad K (6 * i + 13))] (layC K (wS c j v)) (fun u => u = layC K (wS c j (cpV (c.1 i) v))) := by
  obtain ⟨n, am, he, sa, ro, fa, kd, sp, hu, be, ea⟩ := v
  exact C_X3_takeOver hI hN c j hj n am he sa ro fa kd sp hu be ea i hi hne
set_option maxHeartbeats 4000000 in
theorem C_X3_eatRound {K : zK} (hI : zInj K) (hN : kN K = 85) (c : CS) (j : Nat) (hj : j < 12) (n am he sa ro fa : Int) (kd sp hu be ea : Int → Int) (hv : okV (n, am, he, sa, ro, fa, kd, sp, hu, be, ea)) : zCi K yX3_eatRound cX3_eatRound 4 (some .int) 3 [.ref (kad K (6 * j + 13))] (layC K (wS c j (n, am, he, sa, ro, fa, kd, sp, hu, be, ea))) (fun z u => z = (roundV (n, am, he, sa, ro, fa, kd, sp, hu, be, ea)).2 ∧ u = layC K (wS c j (roundV (n, am, he, sa, ro, fa, kd, sp, hu, be, ea)).1)) := by
  obtain ⟨hn, ham, hhe, hsa, hro, hfa, hm⟩ : (0 ≤ n ∧ n ≤ 7) ∧ (0 ≤ am ∧ am ≤ 99) ∧ (0 ≤ he ∧ he ≤ 9) ∧ (0 ≤ sa ∧ sa ≤ 9) ∧ (1 ≤ ro ∧ ro ≤ 20) ∧ (1 ≤ fa ∧ fa ≤ 20) ∧ ∀ i : Int, 0 ≤ i → i < n → okM (kd i) (sp i) (hu i) (be i) := id hv
  refine zCi_in hI (by decide +kernel) (Nat.le_of_ble_eq_true rfl) (fun X O hE => ?_)
  refine r_bipush O (by decide +kernel) dX3_eatRound_0 ?_
  refine n_istore_n O dX3_eatRound_2 (by decide) rfl ?_
  refine r_iconst O dX3_eatRound_3 ?_
  refine n_istore_n O dX3_eatRound_4 (by decide) rfl ?_
  have L5 : ∀ (zk : Nat) (i : Nat) (am1 : Int) (hu1 ea1 : Int → Int) (sc : Int), ((i : Int) ≤ n ∧ eatN (n, am, he, sa, ro, fa, kd, sp, hu, be, ea) i = ((n, am1, he, sa, ro, fa, kd, sp, hu1, be, ea1), sc)) → 7 - i = zk → G K X 4 5 [(0, .ref (kad K (6 * j + 13))), (1, .int (iI sc)), (2, .int (iI (i : Int)))] [] (layC K (wS c j (n, am1, he, sa, ro, fa, kd, sp, hu1, be, ea1))) := by
    intro zk
    induction zk using Nat.strongRecOn with
    | ind zk ih5 =>
      intro i am1 hu1 ea1 sc hinv hk
      obtain ⟨hi, hq⟩ := hinv
      have hv1 : okV (n, am1, he, sa, ro, fa, kd, sp, hu1, be, ea1) := by have := okV_eatN hv i hi; rw [hq] at this; exact this
      have ham1 : 0 ≤ am1 ∧ am1 ≤ 99 := hv1.2.1
      refine n_iload_n O dX3_eatRound_5 rfl ?_
      refine n_aload_n O dX3_eatRound_6 rfl ?_
      refine s_get_n O hN hj fl_X3_27 dX3_eatRound_7 ?_
      refine r_icmp_ge (tgt := 69) O ⟨by omega, by omega⟩ ⟨by omega, by omega⟩ dX3_eatRound_10 (by decide) (fun hc10 => ?_) (fun hc10 => ?_)
      · skip
        refine n_aload_n O dX3_eatRound_69 rfl ?_
        refine r_callV0v O (C_X3_waitOnce hI hN _ _ hj _ _ _ _ _ _ _ _ _ _ _ hv1) q_X3_72 (by rw [hN]; omega) (lay_q K _ _ _ 0 (by omega) (by decide) rfl) rfl rfl (by decide) (by decide) (Nat.le_of_ble_eq_true rfl) dX3_eatRound_70 (fun zu70 hz70 => ?_)
        obtain rfl := hz70
        refine n_iload_n O dX3_eatRound_73 rfl ?_
        exact hE _ _ _ _ dX3_eatRound_74 rfl (by have hin : n.toNat = i := (by omega); exact ⟨by show sc = (eatN (n, am, he, sa, ro, fa, kd, sp, hu, be, ea) n.toNat).2; rw [hin, hq], by show _ = layC K (wS c j (waitV (eatN (n, am, he, sa, ro, fa, kd, sp, hu, be, ea) n.toNat).1)); rw [hin, hq]; rfl⟩)
      · skip
        refine n_aload_n O dX3_eatRound_13 rfl ?_
        refine n_iload_n O dX3_eatRound_14 rfl ?_
        refine r_callV1i O (D_X3_share hI hN _ _ hj _ hv1 _ (by omega) (by show (i : Int) < n; omega)) q_X3_69 (by rw [hN]; omega) (lay_q K _ _ _ 0 (by omega) (by decide) rfl) rfl rfl (by decide) (by decide) (Nat.le_of_ble_eq_true rfl) dX3_eatRound_15 (fun zz15 zu15 hz15 => ?_)
        obtain ⟨rfl, rfl⟩ := hz15
        have hs : 0 ≤ shareV (n, am1, he, sa, ro, fa, kd, sp, hu1, be, ea1) i ∧ shareV (n, am1, he, sa, ro, fa, kd, sp, hu1, be, ea1) i ≤ am1 ∧ shareV (n, am1, he, sa, ro, fa, kd, sp, hu1, be, ea1) i ≤ hu1 i := shareV_b hv1 (by omega) (by show (i : Int) < n; omega)
        refine n_istore_n O dX3_eatRound_18 (by decide) rfl ?_
        refine n_iload_n O dX3_eatRound_19 rfl ?_
        refine r_if_le (tgt := 33) O ⟨by omega, by omega⟩ dX3_eatRound_20 (by decide) (fun hc20 => ?_) (fun hc20 => ?_)
        · skip
          refine n_aload_n O dX3_eatRound_33 rfl ?_
          refine r_dup O rfl dX3_eatRound_34 ?_
          refine s_get_am O hN hj fl_X3_31 dX3_eatRound_35 ?_
          refine n_iload_n O dX3_eatRound_38 rfl ?_
          refine r_isub O dX3_eatRound_39 ?_
          refine s_put_am O hN hj fl_X3_31 dX3_eatRound_40 ?_
          refine n_aload_n O dX3_eatRound_43 rfl ?_
          refine s_arr_hu O hN hj fl_X3_18 dX3_eatRound_44 ?_
          refine n_iload_n O dX3_eatRound_47 rfl ?_
          refine r_dup2 O rfl rfl dX3_eatRound_48 ?_
          refine s_ld_hu O hN hj (by omega) (by omega) dX3_eatRound_49 ?_
          refine n_iload_n O dX3_eatRound_50 rfl ?_
          refine r_isub O dX3_eatRound_51 ?_
          refine s_st_hu O hN hj (by omega) (by omega) dX3_eatRound_52 ?_
          refine n_aload_n O dX3_eatRound_53 rfl ?_
          refine s_arr_ea O hN hj fl_X3_24 dX3_eatRound_54 ?_
          refine n_iload_n O dX3_eatRound_57 rfl ?_
          refine r_dup2 O rfl rfl dX3_eatRound_58 ?_
          refine s_ld_ea O hN hj (by omega) (by omega) dX3_eatRound_59 ?_
          refine n_iload_n O dX3_eatRound_60 rfl ?_
          refine r_iadd O dX3_eatRound_61 ?_
          refine s_st_ea O hN hj (by omega) (by omega) dX3_eatRound_62 ?_
          refine n_iinc O dX3_eatRound_63 (by decide) rfl rfl ?_
          refine r_goto (tgt := 5) O dX3_eatRound_66 (by decide) ?_
          exact G_chk (ih5 _ (by omega) (i + 1) _ _ _ _ ⟨by omega, by show eatS (eatN (n, am, he, sa, ro, fa, kd, sp, hu, be, ea) i) (i : Int) = _; rw [hq]; first | exact eatS_y ⟨by omega, by show shareV (n, am1, he, sa, ro, fa, kd, sp, hu1, be, ea1) i = am1; omega⟩ | exact eatS_n (by show ¬ (0 < shareV (n, am1, he, sa, ro, fa, kd, sp, hu1, be, ea1) i ∧ shareV (n, am1, he, sa, ro, fa, kd, sp, hu1, be, ea1) i = am1); omega)⟩ rfl) (zsc rfl (zsc rfl (zsc rfl zsn)))
        · skip
          refine n_iload_n O dX3_eatRound_23 rfl ?_
          refine n_aload_n O dX3_eatRound_24 rfl ?_
          refine s_get_am O hN hj fl_X3_31 dX3_eatRound_25 ?_
          refine r_icmp_ne (tgt := 33) O ⟨by omega, by omega⟩ ⟨by omega, by omega⟩ dX3_eatRound_28 (by decide) (fun hc28 => ?_) (fun hc28 => ?_)
          · skip
            refine n_aload_n O dX3_eatRound_33 rfl ?_
            refine r_dup O rfl dX3_eatRound_34 ?_
            refine s_get_am O hN hj fl_X3_31 dX3_eatRound_35 ?_
            refine n_iload_n O dX3_eatRound_38 rfl ?_
            refine r_isub O dX3_eatRound_39 ?_
            refine s_put_am O hN hj fl_X3_31 dX3_eatRound_40 ?_
            refine n_aload_n O dX3_eatRound_43 rfl ?_
            refine s_arr_hu O hN hj fl_X3_18 dX3_eatRound_44 ?_
            refine n_iload_n O dX3_eatRound_47 rfl ?_
            refine r_dup2 O rfl rfl dX3_eatRound_48 ?_
            refine s_ld_hu O hN hj (by omega) (by omega) dX3_eatRound_49 ?_
            refine n_iload_n O dX3_eatRound_50 rfl ?_
            refine r_isub O dX3_eatRound_51 ?_
            refine s_st_hu O hN hj (by omega) (by omega) dX3_eatRound_52 ?_
            refine n_aload_n O dX3_eatRound_53 rfl ?_
            refine s_arr_ea O hN hj fl_X3_24 dX3_eatRound_54 ?_
            refine n_iload_n O dX3_eatRound_57 rfl ?_
            refine r_dup2 O rfl rfl dX3_eatRound_58 ?_
            refine s_ld_ea O hN hj (by omega) (by omega) dX3_eatRound_59 ?_
            refine n_iload_n O dX3_eatRound_60 rfl ?_
            refine r_iadd O dX3_eatRound_61 ?_
            refine s_st_ea O hN hj (by omega) (by omega) dX3_eatRound_62 ?_
            refine n_iinc O dX3_eatRound_63 (by decide) rfl rfl ?_
            refine r_goto (tgt := 5) O dX3_eatRound_66 (by decide) ?_
            exact G_chk (ih5 _ (by omega) (i + 1) _ _ _ _ ⟨by omega, by show eatS (eatN (n, am, he, sa, ro, fa, kd, sp, hu, be, ea) i) (i : Int) = _; rw [hq]; first | exact eatS_y ⟨by omega, by show shareV (n, am1, he, sa, ro, fa, kd, sp, hu1, be, ea1) i = am1; omega⟩ | exact eatS_n (by show ¬ (0 < shareV (n, am1, he, sa, ro, fa, kd, sp, hu1, be, ea1) i ∧ shareV (n, am1, he, sa, ro, fa, kd, sp, hu1, be, ea1) i = am1); omega)⟩ rfl) (zsc rfl (zsc rfl (zsc rfl zsn)))
          · skip
            refine n_iload_n O dX3_eatRound_31 rfl ?_
            refine n_istore_n O dX3_eatRound_32 (by decide) rfl ?_
            refine n_aload_n O dX3_eatRound_33 rfl ?_
            refine r_dup O rfl dX3_eatRound_34 ?_
            refine s_get_am O hN hj fl_X3_31 dX3_eatRound_35 ?_
            refine n_iload_n O dX3_eatRound_38 rfl ?_
            refine r_isub O dX3_eatRound_39 ?_
            refine s_put_am O hN hj fl_X3_31 dX3_eatRound_40 ?_
            refine n_aload_n O dX3_eatRound_43 rfl ?_
            refine s_arr_hu O hN hj fl_X3_18 dX3_eatRound_44 ?_
            refine n_iload_n O dX3_eatRound_47 rfl ?_
            refine r_dup2 O rfl rfl dX3_eatRound_48 ?_
            refine s_ld_hu O hN hj (by omega) (by omega) dX3_eatRound_49 ?_
            refine n_iload_n O dX3_eatRound_50 rfl ?_
            refine r_isub O dX3_eatRound_51 ?_
            refine s_st_hu O hN hj (by omega) (by omega) dX3_eatRound_52 ?_
            refine n_aload_n O dX3_eatRound_53 rfl ?_
            refine s_arr_ea O hN hj fl_X3_24 dX3_eatRound_54 ?_
            refine n_iload_n O dX3_eatRound_57 rfl ?_
            refine r_dup2 O rfl rfl dX3_eatRound_58 ?_
            refine s_ld_ea O hN hj (by omega) (by omega) dX3_eatRound_59 ?_
            refine n_iload_n O dX3_eatRound_60 rfl ?_
            refine r_iadd O dX3_eatRound_61 ?_
            refine s_st_ea O hN hj (by omega) (by omega) dX3_eatRound_62 ?_
            refine n_iinc O dX3_eatRound_63 (by decide) rfl rfl ?_
            refine r_goto (tgt := 5) O dX3_eatRound_66 (by decide) ?_
            exact G_chk (ih5 _ (by omega) (i + 1) _ _ _ _ ⟨by omega, by show eatS (eatN (n, am, he, sa, ro, fa, kd, sp, hu, be, ea) i) (i : Int) = _; rw [hq]; first | exact eatS_y ⟨by omega, by show shareV (n, am1, he, sa, ro, fa, kd, sp, hu1, be, ea1) i = am1; omega⟩ | exact eatS_n (by show ¬ (0 < shareV (n, am1, he, sa, ro, fa, kd, sp, hu1, be, ea1) i ∧ shareV (n, am1, he, sa, ro, fa, kd, sp, hu1, be, ea1) i = am1); omega)⟩ rfl) (zsc rfl (zsc rfl (zsc rfl zsn)))
  exact G_chk (L5 _ 0 am hu ea (-4) ⟨by omega, rfl⟩ rfl) (zsc rfl (zsc rfl (zsc rfl zsn)))
theorem D_X3_eatRound {K : zK} (hI : zInj K) (hN : kN K = 85) (c : CS) (j : Nat) (hj : j < 12) (v : SV) (hv : okV v)  : zCi K yX3_eatRound cX3_eatRound 4 (some .int) 3 [.ref (kad K (6 * j + 13))] (layC K (wS c j v)) (fun z u => z = (roundV v).2 ∧ u = layC K (wS c j (roundV v).1)) := by
  obtain ⟨n, am, he, sa, ro, fa, kd, sp, hu, be, ea⟩ := v
  exact C_X3_eatRound hI hN c j hj n am he sa ro fa kd sp hu be ea hv 
set_option maxHeartbeats 4000000 in
theorem C_X3_eatRounds {K : zK} (hI : zInj K) (hN : kN K = 85) (c : CS) (j : Nat) (hj : j < 12) (n am he sa ro fa : Int) (kd sp hu be ea : Int → Int) (hv : okV (n, am, he, sa, ro, fa, kd, sp, hu, be, ea)) (m : Int) (hm0 : 0 ≤ m) (hm1 : m ≤ 20) : zCi K yX3_eatRounds cX3_eatRounds 5 (some .int) 4 [.ref (kad K (6 * j + 13)), .int (iI m)] (layC K (wS c j (n, am, he, sa, ro, fa, kd, sp, hu, be, ea))) (fun z u => z = (roundsV (n, am, he, sa, ro, fa, kd, sp, hu, be, ea) m.toNat).2 ∧ u = layC K (wS c j (roundsV (n, am, he, sa, ro, fa, kd, sp, hu, be, ea) m.toNat).1)) := by
  obtain ⟨hn, ham, hhe, hsa, hro, hfa, hm⟩ : (0 ≤ n ∧ n ≤ 7) ∧ (0 ≤ am ∧ am ≤ 99) ∧ (0 ≤ he ∧ he ≤ 9) ∧ (0 ≤ sa ∧ sa ≤ 9) ∧ (1 ≤ ro ∧ ro ≤ 20) ∧ (1 ≤ fa ∧ fa ≤ 20) ∧ ∀ i : Int, 0 ≤ i → i < n → okM (kd i) (sp i) (hu i) (be i) := id hv
  refine zCi_in hI (by decide +kernel) (Nat.le_of_ble_eq_true rfl) (fun X O hE => ?_)
  refine r_bipush O (by decide +kernel) dX3_eatRounds_0 ?_
  refine n_istore_n O dX3_eatRounds_2 (by decide) rfl ?_
  refine r_iconst O dX3_eatRounds_3 ?_
  refine n_istore_n O dX3_eatRounds_4 (by decide) rfl ?_
  have L5 : ∀ (zk : Nat) (i : Nat) (sc : Int), ((i : Int) ≤ m ∧ (roundsV (n, am, he, sa, ro, fa, kd, sp, hu, be, ea) i).2 = sc) → 20 - i = zk → G K X 5 5 [(0, .ref (kad K (6 * j + 13))), (1, .int (iI m)), (2, .int (iI sc)), (3, .int (iI (i : Int)))] [] (layC K (wS c j (roundsV (n, am, he, sa, ro, fa, kd, sp, hu, be, ea) i).1)) := by
    intro zk
    induction zk using Nat.strongRecOn with
    | ind zk ih5 =>
      intro i sc hinv hk
      obtain ⟨hi, hq⟩ := hinv
      have hvi : okV (roundsV (n, am, he, sa, ro, fa, kd, sp, hu, be, ea) i).1 := okV_roundsV hv i
      have hb := scr_roundV hvi
      refine n_iload_n O dX3_eatRounds_5 rfl ?_
      refine n_iload_n O dX3_eatRounds_6 rfl ?_
      refine r_icmp_ge (tgt := 32) O ⟨by omega, by omega⟩ ⟨by omega, by omega⟩ dX3_eatRounds_7 (by decide) (fun hc7 => ?_) (fun hc7 => ?_)
      · skip
        refine n_iload_n O dX3_eatRounds_32 rfl ?_
        exact hE _ _ _ _ dX3_eatRounds_33 rfl (by have hin : m.toNat = i := (by omega); rw [hin]; exact ⟨hq.symm, rfl⟩)
      · skip
        refine n_aload_n O dX3_eatRounds_10 rfl ?_
        refine r_callV0i O (D_X3_eatRound hI hN _ _ hj _ hvi) q_X3_75 (by rw [hN]; omega) (lay_q K _ _ _ 0 (by omega) (by decide) rfl) rfl rfl (by decide) (by decide) (Nat.le_of_ble_eq_true rfl) dX3_eatRounds_11 (fun zz11 zu11 hz11 => ?_)
        obtain ⟨rfl, rfl⟩ := hz11
        refine n_istore O dX3_eatRounds_14 (by decide) rfl ?_
        refine n_iload O dX3_eatRounds_16 rfl ?_
        refine r_bipush O (by decide +kernel) dX3_eatRounds_18 ?_
        refine r_icmp_eq (tgt := 26) O ⟨by omega, by omega⟩ ⟨by omega, by omega⟩ dX3_eatRounds_20 (by decide) (fun hc20 => ?_) (fun hc20 => ?_)
        · skip
          refine n_iinc O dX3_eatRounds_26 (by decide) rfl rfl ?_
          refine r_goto (tgt := 5) O dX3_eatRounds_29 (by decide) ?_
          exact G_chk (ih5 _ (by omega) (i + 1) _ ⟨by omega, by show (if (roundV (roundsV (n, am, he, sa, ro, fa, kd, sp, hu, be, ea) i).1).2 = -4 then (roundsV (n, am, he, sa, ro, fa, kd, sp, hu, be, ea) i).2 else (roundV (roundsV (n, am, he, sa, ro, fa, kd, sp, hu, be, ea) i).1).2) = _; first | (rw [if_pos hc20, hq]; done) | (rw [if_neg hc20]; done)⟩ rfl) (zsc rfl (zsc rfl (zsc rfl (zsc rfl zsn))))
        · skip
          refine n_iload O dX3_eatRounds_23 rfl ?_
          refine n_istore_n O dX3_eatRounds_25 (by decide) rfl ?_
          refine n_iinc O dX3_eatRounds_26 (by decide) rfl rfl ?_
          refine r_goto (tgt := 5) O dX3_eatRounds_29 (by decide) ?_
          exact G_chk (ih5 _ (by omega) (i + 1) _ ⟨by omega, by show (if (roundV (roundsV (n, am, he, sa, ro, fa, kd, sp, hu, be, ea) i).1).2 = -4 then (roundsV (n, am, he, sa, ro, fa, kd, sp, hu, be, ea) i).2 else (roundV (roundsV (n, am, he, sa, ro, fa, kd, sp, hu, be, ea) i).1).2) = _; first | (rw [if_pos hc20, hq]; done) | (rw [if_neg hc20]; done)⟩ rfl) (zsc rfl (zsc rfl (zsc rfl (zsc rfl zsn))))
  exact G_chk (L5 _ 0 (-4) ⟨by omega, rfl⟩ rfl) (zsc rfl (zsc rfl (zsc rfl (zsc rfl zsn))))
theorem D_X3_eatRounds {K : zK} (hI : zInj K) (hN : kN K = 85) (c : CS) (j : Nat) (hj : j < 12) (v : SV) (hv : okV v) (m : Int) (hm0 : 0 ≤ m) (hm1 : m ≤ 20) : zCi K yX3_eatRounds cX3_eatRounds 5 (some .int) 4 [.ref (kad K (6 * j + 13)), .int (iI m)] (layC K (wS c j v)) (fun z u => z = (roundsV v m.toNat).2 ∧ u = layC K (wS c j (roundsV v m.toNat).1)) := by
  obtain ⟨n, am, he, sa, ro, fa, kd, sp, hu, be, ea⟩ := v
  exact C_X3_eatRounds hI hN c j hj n am he sa ro fa kd sp hu be ea hv m hm0 hm1
set_option maxHeartbeats 4000000 in
theorem C_X3_roundsUntilEmpty {K : zK} (hI : zInj K) (hN : kN K = 85) (c : CS) (j : Nat) (hj : j < 12) (n am he sa ro fa : Int) (kd sp hu be ea : Int → Int) (hv : okV (n, am, he, sa, ro, fa, kd, sp, hu, be, ea)) : zCi K yX3_roundsUntilEmpty cX3_roundsUntilEmpty 2 (some .int) 4 [.ref (kad K (6 * j + 13))] (layC K (wS c j (n, am, he, sa, ro, fa, kd, sp, hu, be, ea))) (fun z u => untilP (n, am, he, sa, ro, fa, kd, sp, hu, be, ea) z ∧ ∃ w : SV, u = layC K (wS c j w)) := by
  obtain ⟨hn, ham, hhe, hsa, hro, hfa, hm⟩ : (0 ≤ n ∧ n ≤ 7) ∧ (0 ≤ am ∧ am ≤ 99) ∧ (0 ≤ he ∧ he ≤ 9) ∧ (0 ≤ sa ∧ sa ≤ 9) ∧ (1 ≤ ro ∧ ro ≤ 20) ∧ (1 ≤ fa ∧ fa ≤ 20) ∧ ∀ i : Int, 0 ≤ i → i < n → okM (kd i) (sp i) (hu i) (be i) := id hv
  refine zCi_in hI (by decide +kernel) (Nat.le_of_ble_eq_true rfl) (fun X O hE => ?_)
  refine r_iconst O dX3_roundsUntilEmpty_0 ?_
  refine n_istore_n O dX3_roundsUntilEmpty_1 (by decide) rfl ?_
  have L2 : ∀ (zk : Nat) (i : Nat), ((i : Int) ≤ ro + 1 ∧ ∀ m : Nat, m < i → qam (roundsV (n, am, he, sa, ro, fa, kd, sp, hu, be, ea) m).1 ≠ 0) → 21 - i = zk → G K X 2 2 [(0, .ref (kad K (6 * j + 13))), (1, .int (iI (i : Int)))] [] (layC K (wS c j (roundsV (n, am, he, sa, ro, fa, kd, sp, hu, be, ea) i).1)) := by
    intro zk
    induction zk using Nat.strongRecOn with
    | ind zk ih2 =>
      intro i hinv hk
      obtain ⟨hi, hq⟩ := hinv
      have hvi : okV (roundsV (n, am, he, sa, ro, fa, kd, sp, hu, be, ea) i).1 := okV_roundsV hv i
      have hr : qro (roundsV (n, am, he, sa, ro, fa, kd, sp, hu, be, ea) i).1 = ro := roundsV_ro _ i
      have ha := hvi.2.1
      refine n_iload_n O dX3_roundsUntilEmpty_2 rfl ?_
      refine n_aload_n O dX3_roundsUntilEmpty_3 rfl ?_
      refine v_get_ro O hN hj fl_X3_40 dX3_roundsUntilEmpty_4 ?_
      refine r_icmp_gt (tgt := 30) O ⟨by omega, by omega⟩ ⟨by omega, by omega⟩ dX3_roundsUntilEmpty_7 (by decide) (fun hc7 => ?_) (fun hc7 => ?_)
      · skip
        refine r_bipush O (by decide +kernel) dX3_roundsUntilEmpty_30 ?_
        exact hE _ _ _ _ dX3_roundsUntilEmpty_32 rfl ⟨Or.inr ⟨fun m hm => hq m (by have : (m : Int) ≤ ro := hm; omega), rfl⟩, _, rfl⟩
      · skip
        refine n_aload_n O dX3_roundsUntilEmpty_10 rfl ?_
        refine v_get_am O hN hj fl_X3_31 dX3_roundsUntilEmpty_11 ?_
        refine r_if_ne (tgt := 19) O ⟨by omega, by omega⟩ dX3_roundsUntilEmpty_14 (by decide) (fun hc14 => ?_) (fun hc14 => ?_)
        · skip
          refine n_aload_n O dX3_roundsUntilEmpty_19 rfl ?_
          refine r_callV0i O (D_X3_eatRound hI hN _ _ hj _ hvi) q_X3_75 (by rw [hN]; omega) (lay_q K _ _ _ 0 (by omega) (by decide) rfl) rfl rfl (by decide) (by decide) (Nat.le_of_ble_eq_true rfl) dX3_roundsUntilEmpty_20 (fun zz20 zu20 hz20 => ?_)
          obtain ⟨rfl, rfl⟩ := hz20
          refine r_pop O rfl dX3_roundsUntilEmpty_23 ?_
          refine n_iinc O dX3_roundsUntilEmpty_24 (by decide) rfl rfl ?_
          refine r_goto (tgt := 2) O dX3_roundsUntilEmpty_27 (by decide) ?_
          exact G_chk (ih2 _ (by omega) (i + 1) ⟨by omega, fun m hm => by rcases Nat.lt_or_ge m i with h | h; exact hq m h; have e : m = i := (by omega); rw [e]; exact hc14⟩ rfl) (zsc rfl (zsc rfl zsn))
        · skip
          have hc14 : qam (roundsV (n, am, he, sa, ro, fa, kd, sp, hu, be, ea) i).1 = 0 := by omega
          refine n_iload_n O dX3_roundsUntilEmpty_17 rfl ?_
          exact hE _ _ _ _ dX3_roundsUntilEmpty_18 rfl ⟨Or.inl ⟨i, by show (i : Int) ≤ ro; omega, hc14, hq, rfl⟩, _, rfl⟩
  exact G_chk (L2 _ 0 ⟨by omega, fun m hm => by omega⟩ rfl) (zsc rfl (zsc rfl zsn))
theorem D_X3_roundsUntilEmpty {K : zK} (hI : zInj K) (hN : kN K = 85) (c : CS) (j : Nat) (hj : j < 12) (v : SV) (hv : okV v)  : zCi K yX3_roundsUntilEmpty cX3_roundsUntilEmpty 2 (some .int) 4 [.ref (kad K (6 * j + 13))] (layC K (wS c j v)) (fun z u => untilP v z ∧ ∃ w : SV, u = layC K (wS c j w)) := by
  obtain ⟨n, am, he, sa, ro, fa, kd, sp, hu, be, ea⟩ := v
  exact C_X3_roundsUntilEmpty hI hN c j hj n am he sa ro fa kd sp hu be ea hv 
set_option maxHeartbeats 4000000 in
theorem C_X3_reach {K : zK} (hI : zInj K) (hN : kN K = 85) (c : CS) (j : Nat) (hj : j < 12) (n am he sa ro fa : Int) (kd sp hu be ea : Int → Int) (hv : okV (n, am, he, sa, ro, fa, kd, sp, hu, be, ea)) (i : Int) (h0 : 0 ≤ i) (h1 : i < n) : zCi K yX3_reach cX3_reach 4 (some .int) 2 [.ref (kad K (6 * j + 13)), .int (iI i)] (layC K (wS c j (n, am, he, sa, ro, fa, kd, sp, hu, be, ea))) (fun z u => z = reachV (n, am, he, sa, ro, fa, kd, sp, hu, be, ea) i ∧ u = (layC K (wS c j (n, am, he, sa, ro, fa, kd, sp, hu, be, ea)))) := by
  obtain ⟨hn, ham, hhe, hsa, hro, hfa, hm⟩ : (0 ≤ n ∧ n ≤ 7) ∧ (0 ≤ am ∧ am ≤ 99) ∧ (0 ≤ he ∧ he ≤ 9) ∧ (0 ≤ sa ∧ sa ≤ 9) ∧ (1 ≤ ro ∧ ro ≤ 20) ∧ (1 ≤ fa ∧ fa ≤ 20) ∧ ∀ i : Int, 0 ≤ i → i < n → okM (kd i) (sp i) (hu i) (be i) := id hv
  have hi : (0 ≤ kd i ∧ kd i ≤ 3) ∧ (1 ≤ sp i ∧ sp i ≤ 9) ∧ (0 ≤ hu i ∧ hu i ≤ 60) ∧ (0 ≤ be i ∧ be i ≤ 9) := hm i h0 h1
  refine zCi_in hI (by decide +kernel) (Nat.le_of_ble_eq_true rfl) (fun X O hE => ?_)
  refine r_iconst O dX3_reach_0 ?_
  refine n_istore_n O dX3_reach_1 (by decide) rfl ?_
  refine r_iconst O dX3_reach_2 ?_
  refine n_istore_n O dX3_reach_3 (by decide) rfl ?_
  have L4 : ∀ (zk : Nat) (r : Nat), ((r : Int) ≤ ro) → 20 - r = zk → G K X 4 4 [(0, .ref (kad K (6 * j + 13))), (1, .int (iI i)), (2, .int (iI (reachN (n, am, he, sa, ro, fa, kd, sp, hu, be, ea) i r))), (3, .int (iI (r : Int)))] [] (layC K (wS c j (n, am, he, sa, ro, fa, kd, sp, hu, be, ea))) := by
    intro zk
    induction zk using Nat.strongRecOn with
    | ind zk ih4 =>
      intro r hinv hk
      have hr : 0 ≤ reachN (n, am, he, sa, ro, fa, kd, sp, hu, be, ea) i r ∧ reachN (n, am, he, sa, ro, fa, kd, sp, hu, be, ea) i r ≤ hu i := reachN_b (v := (n, am, he, sa, ro, fa, kd, sp, hu, be, ea)) (i := i) hi.2.1 hi.2.2.1.1 r
      have hb := spoonV_b (sa := sa) (he := he - (r : Int)) (k := kd i) (be := be i) hi.2.1
      refine n_iload_n O dX3_reach_4 rfl ?_
      refine n_aload_n O dX3_reach_5 rfl ?_
      refine s_get_ro O hN hj fl_X3_40 dX3_reach_6 ?_
      refine r_icmp_ge (tgt := 43) O ⟨by omega, by omega⟩ ⟨by omega, by omega⟩ dX3_reach_9 (by decide) (fun hc9 => ?_) (fun hc9 => ?_)
      · skip
        refine n_iload_n O dX3_reach_43 rfl ?_
        exact hE _ _ _ _ dX3_reach_44 rfl (by have hin : ro.toNat = r := (by omega); exact ⟨by show _ = reachN (n, am, he, sa, ro, fa, kd, sp, hu, be, ea) i ro.toNat; rw [hin], rfl⟩)
      · skip
        refine n_iload_n O dX3_reach_12 rfl ?_
        refine n_aload_n O dX3_reach_13 rfl ?_
        refine n_iload_n O dX3_reach_14 rfl ?_
        refine n_aload_n O dX3_reach_15 rfl ?_
        refine s_get_he O hN hj fl_X3_34 dX3_reach_16 ?_
        refine n_iload_n O dX3_reach_19 rfl ?_
        refine r_isub O dX3_reach_20 ?_
        refine r_callV2i O (C_X3_spoonful hI hN _ _ hj _ _ _ _ _ _ _ _ _ _ _ hv _ _ (by omega) (by omega) ⟨by omega, by omega⟩) q_X3_56 (by rw [hN]; omega) (lay_q K _ _ _ 0 (by omega) (by decide) rfl) rfl rfl (by decide) (by decide) (Nat.le_of_ble_eq_true rfl) dX3_reach_21 (fun zz21 zu21 hz21 => ?_)
        obtain ⟨rfl, rfl⟩ := hz21
        refine n_aload_n O dX3_reach_24 rfl ?_
        refine s_arr_hu O hN hj fl_X3_18 dX3_reach_25 ?_
        refine n_iload_n O dX3_reach_28 rfl ?_
        refine s_ld_hu O hN hj (by omega) (by omega) dX3_reach_29 ?_
        refine n_iload_n O dX3_reach_30 rfl ?_
        refine r_isub O dX3_reach_31 ?_
        refine r_min O qm_X3_60 (by decide) (Nat.le_of_ble_eq_true rfl) ⟨by omega, by omega⟩ ⟨by omega, by omega⟩ dX3_reach_32 ?_
        refine r_iadd O dX3_reach_35 ?_
        refine n_istore_n O dX3_reach_36 (by decide) rfl ?_
        refine n_iinc O dX3_reach_37 (by decide) rfl rfl ?_
        refine r_goto (tgt := 4) O dX3_reach_40 (by decide) ?_
        exact G_chk (ih4 _ (by omega) (r + 1) (by omega) rfl) (zsc rfl (zsc rfl (zsc rfl (zsc rfl zsn))))
  exact G_chk (L4 _ 0 (by omega) rfl) (zsc rfl (zsc rfl (zsc rfl (zsc rfl zsn))))
theorem D_X3_reach {K : zK} (hI : zInj K) (hN : kN K = 85) (c : CS) (j : Nat) (hj : j < 12) (v : SV) (hv : okV v) (i : Int) (h0 : 0 ≤ i) (h1 : i < qn v) : zCi K yX3_reach cX3_reach 4 (some .int) 2 [.ref (kad K (6 * j + 13)), .int (iI i)] (layC K (wS c j v)) (fun z u => z = reachV v i ∧ u = layC K (wS c j v)) := by
  obtain ⟨n, am, he, sa, ro, fa, kd, sp, hu, be, ea⟩ := v
  exact C_X3_reach hI hN c j hj n am he sa ro fa kd sp hu be ea hv i h0 h1
set_option maxHeartbeats 4000000 in
theorem C_X3_reachOfAll {K : zK} (hI : zInj K) (hN : kN K = 85) (c : CS) (j : Nat) (hj : j < 12) (n am he sa ro fa : Int) (kd sp hu be ea : Int → Int) (hv : okV (n, am, he, sa, ro, fa, kd, sp, hu, be, ea)) : zCi K yX3_reachOfAll cX3_reachOfAll 3 (some .int) 3 [.ref (kad K (6 * j + 13))] (layC K (wS c j (n, am, he, sa, ro, fa, kd, sp, hu, be, ea))) (fun z u => z = reachA (n, am, he, sa, ro, fa, kd, sp, hu, be, ea) n.toNat ∧ u = (layC K (wS c j (n, am, he, sa, ro, fa, kd, sp, hu, be, ea)))) := by
  obtain ⟨hn, ham, hhe, hsa, hro, hfa, hm⟩ : (0 ≤ n ∧ n ≤ 7) ∧ (0 ≤ am ∧ am ≤ 99) ∧ (0 ≤ he ∧ he ≤ 9) ∧ (0 ≤ sa ∧ sa ≤ 9) ∧ (1 ≤ ro ∧ ro ≤ 20) ∧ (1 ≤ fa ∧ fa ≤ 20) ∧ ∀ i : Int, 0 ≤ i → i < n → okM (kd i) (sp i) (hu i) (be i) := id hv
  refine zCi_in hI (by decide +kernel) (Nat.le_of_ble_eq_true rfl) (fun X O hE => ?_)
  refine r_iconst O dX3_reachOfAll_0 ?_
  refine n_istore_n O dX3_reachOfAll_1 (by decide) rfl ?_
  refine r_iconst O dX3_reachOfAll_2 ?_
  refine n_istore_n O dX3_reachOfAll_3 (by decide) rfl ?_
  have L4 : ∀ (zk : Nat) (i : Nat), ((i : Int) ≤ n) → 7 - i = zk → G K X 3 4 [(0, .ref (kad K (6 * j + 13))), (1, .int (iI (reachA (n, am, he, sa, ro, fa, kd, sp, hu, be, ea) i))), (2, .int (iI (i : Int)))] [] (layC K (wS c j (n, am, he, sa, ro, fa, kd, sp, hu, be, ea))) := by
    intro zk
    induction zk using Nat.strongRecOn with
    | ind zk ih4 =>
      intro i hinv hk
      refine n_iload_n O dX3_reachOfAll_4 rfl ?_
      refine n_aload_n O dX3_reachOfAll_5 rfl ?_
      refine s_get_n O hN hj fl_X3_27 dX3_reachOfAll_6 ?_
      refine r_icmp_ge (tgt := 26) O ⟨by omega, by omega⟩ ⟨by omega, by omega⟩ dX3_reachOfAll_9 (by decide) (fun hc9 => ?_) (fun hc9 => ?_)
      · skip
        refine n_iload_n O dX3_reachOfAll_26 rfl ?_
        exact hE _ _ _ _ dX3_reachOfAll_27 rfl (by have hin : n.toNat = i := (by omega); rw [hin]; exact ⟨rfl, rfl⟩)
      · skip
        refine n_iload_n O dX3_reachOfAll_12 rfl ?_
        refine n_aload_n O dX3_reachOfAll_13 rfl ?_
        refine n_iload_n O dX3_reachOfAll_14 rfl ?_
        refine r_callV1i O (C_X3_reach hI hN _ _ hj _ _ _ _ _ _ _ _ _ _ _ hv _ (by omega) (by omega)) q_X3_79 (by rw [hN]; omega) (lay_q K _ _ _ 0 (by omega) (by decide) rfl) rfl rfl (by decide) (by decide) (Nat.le_of_ble_eq_true rfl) dX3_reachOfAll_15 (fun zz15 zu15 hz15 => ?_)
        obtain ⟨rfl, rfl⟩ := hz15
        refine r_iadd O dX3_reachOfAll_18 ?_
        refine n_istore_n O dX3_reachOfAll_19 (by decide) rfl ?_
        refine n_iinc O dX3_reachOfAll_20 (by decide) rfl rfl ?_
        refine r_goto (tgt := 4) O dX3_reachOfAll_23 (by decide) ?_
        exact G_chk (ih4 _ (by omega) (i + 1) (by omega) rfl) (zsc rfl (zsc rfl (zsc rfl zsn)))
  exact G_chk (L4 _ 0 (by omega) rfl) (zsc rfl (zsc rfl (zsc rfl zsn)))
theorem D_X3_reachOfAll {K : zK} (hI : zInj K) (hN : kN K = 85) (c : CS) (j : Nat) (hj : j < 12) (v : SV) (hv : okV v)  : zCi K yX3_reachOfAll cX3_reachOfAll 3 (some .int) 3 [.ref (kad K (6 * j + 13))] (layC K (wS c j v)) (fun z u => z = reachA v (qn v).toNat ∧ u = layC K (wS c j v)) := by
  obtain ⟨n, am, he, sa, ro, fa, kd, sp, hu, be, ea⟩ := v
  exact C_X3_reachOfAll hI hN c j hj n am he sa ro fa kd sp hu be ea hv 
set_option maxHeartbeats 4000000 in
theorem C_X3_wouldPass {K : zK} (hI : zInj K) (hN : kN K = 85) (c : CS) (j : Nat) (hj : j < 12) (n am he sa ro fa : Int) (kd sp hu be ea : Int → Int) (hv : okV (n, am, he, sa, ro, fa, kd, sp, hu, be, ea)) : zCi K yX3_wouldPass cX3_wouldPass 1 (some .boolean) 4 [.ref (kad K (6 * j + 13))] (layC K (wS c j (n, am, he, sa, ro, fa, kd, sp, hu, be, ea))) (fun z u => z = passI (n, am, he, sa, ro, fa, kd, sp, hu, be, ea) ∧ u = (layC K (wS c j (n, am, he, sa, ro, fa, kd, sp, hu, be, ea)))) := by
  obtain ⟨hn, ham, hhe, hsa, hro, hfa, hm⟩ : (0 ≤ n ∧ n ≤ 7) ∧ (0 ≤ am ∧ am ≤ 99) ∧ (0 ≤ he ∧ he ≤ 9) ∧ (0 ≤ sa ∧ sa ≤ 9) ∧ (1 ≤ ro ∧ ro ≤ 20) ∧ (1 ≤ fa ∧ fa ≤ 20) ∧ ∀ i : Int, 0 ≤ i → i < n → okM (kd i) (sp i) (hu i) (be i) := id hv
  refine zCi_in hI (by decide +kernel) (Nat.le_of_ble_eq_true rfl) (fun X O hE => ?_)
  refine n_aload_n O dX3_wouldPass_0 rfl ?_
  refine r_callV0i O (C_X3_reachOfAll hI hN _ _ hj _ _ _ _ _ _ _ _ _ _ _ hv) q_X3_82 (by rw [hN]; omega) (lay_q K _ _ _ 0 (by omega) (by decide) rfl) rfl rfl (by decide) (by decide) (Nat.le_of_ble_eq_true rfl) dX3_wouldPass_1 (fun zz1 zu1 hz1 => ?_)
  obtain ⟨rfl, rfl⟩ := hz1
  have hra : 0 ≤ reachA (n, am, he, sa, ro, fa, kd, sp, hu, be, ea) n.toNat ∧ reachA (n, am, he, sa, ro, fa, kd, sp, hu, be, ea) n.toNat ≤ 60 * (n.toNat : Int) := reachA_b hv n.toNat (by show (n.toNat : Int) ≤ n; omega)
  refine n_aload_n O dX3_wouldPass_4 rfl ?_
  refine s_get_am O hN hj fl_X3_31 dX3_wouldPass_5 ?_
  refine r_icmp_lt (tgt := 15) O ⟨by omega, by omega⟩ ⟨by omega, by omega⟩ dX3_wouldPass_8 (by decide) (fun hc8 => ?_) (fun hc8 => ?_)
  · skip
    refine r_iconst O dX3_wouldPass_15 ?_
    exact hE _ _ _ _ dX3_wouldPass_16 (nar01 (by omega)) ⟨by show _ = (if am ≤ reachA (n, am, he, sa, ro, fa, kd, sp, hu, be, ea) n.toNat then (1 : Int) else 0); split <;> omega, rfl⟩
  · skip
    refine r_iconst O dX3_wouldPass_11 ?_
    refine r_goto (tgt := 16) O dX3_wouldPass_12 (by decide) ?_
    exact hE _ _ _ _ dX3_wouldPass_16 (nar01 (by omega)) ⟨by show _ = (if am ≤ reachA (n, am, he, sa, ro, fa, kd, sp, hu, be, ea) n.toNat then (1 : Int) else 0); split <;> omega, rfl⟩
theorem D_X3_wouldPass {K : zK} (hI : zInj K) (hN : kN K = 85) (c : CS) (j : Nat) (hj : j < 12) (v : SV) (hv : okV v)  : zCi K yX3_wouldPass cX3_wouldPass 1 (some .boolean) 4 [.ref (kad K (6 * j + 13))] (layC K (wS c j v)) (fun z u => z = passI v ∧ u = layC K (wS c j v)) := by
  obtain ⟨n, am, he, sa, ro, fa, kd, sp, hu, be, ea⟩ := v
  exact C_X3_wouldPass hI hN c j hj n am he sa ro fa kd sp hu be ea hv 
set_option maxHeartbeats 4000000 in
theorem C_X3_sum_hu {K : zK} (hI : zInj K) (hN : kN K = 85) (c : CS) (j : Nat) (hj : j < 12) (n am he sa ro fa : Int) (kd sp hu be ea : Int → Int) (hv : okV (n, am, he, sa, ro, fa, kd, sp, hu, be, ea)) : zCi K yX3_sum cX3_sum 4 (some .int) 0 [.ref (kad K (6 * j + 13)), .ref (kad K (6 * j + 16))] (layC K (wS c j (n, am, he, sa, ro, fa, kd, sp, hu, be, ea))) (fun z u => z = sumI hu n.toNat ∧ u = (layC K (wS c j (n, am, he, sa, ro, fa, kd, sp, hu, be, ea)))) := by
  obtain ⟨hn, ham, hhe, hsa, hro, hfa, hm⟩ : (0 ≤ n ∧ n ≤ 7) ∧ (0 ≤ am ∧ am ≤ 99) ∧ (0 ≤ he ∧ he ≤ 9) ∧ (0 ≤ sa ∧ sa ≤ 9) ∧ (1 ≤ ro ∧ ro ≤ 20) ∧ (1 ≤ fa ∧ fa ≤ 20) ∧ ∀ i : Int, 0 ≤ i → i < n → okM (kd i) (sp i) (hu i) (be i) := id hv
  refine zCi_in hI (by decide +kernel) (Nat.le_of_ble_eq_true rfl) (fun X O hE => ?_)
  refine r_iconst O dX3_sum_0 ?_
  refine n_istore_n O dX3_sum_1 (by decide) rfl ?_
  refine r_iconst O dX3_sum_2 ?_
  refine n_istore_n O dX3_sum_3 (by decide) rfl ?_
  have L4 : ∀ (zk : Nat) (i : Nat), ((i : Int) ≤ n) → 7 - i = zk → G K X 4 4 [(0, .ref (kad K (6 * j + 13))), (1, .ref (kad K (6 * j + 16))), (2, .int (iI (sumI hu i))), (3, .int (iI (i : Int)))] [] (layC K (wS c j (n, am, he, sa, ro, fa, kd, sp, hu, be, ea))) := by
    intro zk
    induction zk using Nat.strongRecOn with
    | ind zk ih4 =>
      intro i hinv hk
      refine n_iload_n O dX3_sum_4 rfl ?_
      refine n_aload_n O dX3_sum_5 rfl ?_
      refine s_get_n O hN hj fl_X3_27 dX3_sum_6 ?_
      refine r_icmp_ge (tgt := 30) O ⟨by omega, by omega⟩ ⟨by omega, by omega⟩ dX3_sum_9 (by decide) (fun hc9 => ?_) (fun hc9 => ?_)
      · skip
        refine n_iload_n O dX3_sum_30 rfl ?_
        exact hE _ _ _ _ dX3_sum_31 rfl (by have hin : n.toNat = i := (by omega); rw [hin]; exact ⟨rfl, rfl⟩)
      · skip
        refine n_iload_n O dX3_sum_12 rfl ?_
        refine n_aload_n O dX3_sum_13 rfl ?_
        refine s_len_hu O hN hj dX3_sum_14 ?_
        refine r_icmp_ge (tgt := 30) O ⟨by omega, by omega⟩ ⟨by omega, by omega⟩ dX3_sum_15 (by decide) (fun hc15 => ?_) (fun hc15 => ?_)
        · skip
          refine n_iload_n O dX3_sum_30 rfl ?_
          exact hE _ _ _ _ dX3_sum_31 rfl (by have hin : n.toNat = i := (by omega); rw [hin]; exact ⟨rfl, rfl⟩)
        · skip
          refine n_iload_n O dX3_sum_18 rfl ?_
          refine n_aload_n O dX3_sum_19 rfl ?_
          refine n_iload_n O dX3_sum_20 rfl ?_
          refine s_ld_hu O hN hj (by omega) (by omega) dX3_sum_21 ?_
          refine r_iadd O dX3_sum_22 ?_
          refine n_istore_n O dX3_sum_23 (by decide) rfl ?_
          refine n_iinc O dX3_sum_24 (by decide) rfl rfl ?_
          refine r_goto (tgt := 4) O dX3_sum_27 (by decide) ?_
          exact G_chk (ih4 _ (by omega) (i + 1) (by omega) rfl) (zsc rfl (zsc rfl (zsc rfl (zsc rfl zsn))))
  exact G_chk (L4 _ 0 (by omega) rfl) (zsc rfl (zsc rfl (zsc rfl (zsc rfl zsn))))
set_option maxHeartbeats 4000000 in
theorem C_X3_sum_ea {K : zK} (hI : zInj K) (hN : kN K = 85) (c : CS) (j : Nat) (hj : j < 12) (n am he sa ro fa : Int) (kd sp hu be ea : Int → Int) (hv : okV (n, am, he, sa, ro, fa, kd, sp, hu, be, ea)) : zCi K yX3_sum cX3_sum 4 (some .int) 0 [.ref (kad K (6 * j + 13)), .ref (kad K (6 * j + 18))] (layC K (wS c j (n, am, he, sa, ro, fa, kd, sp, hu, be, ea))) (fun z u => z = sumI ea n.toNat ∧ u = (layC K (wS c j (n, am, he, sa, ro, fa, kd, sp, hu, be, ea)))) := by
  obtain ⟨hn, ham, hhe, hsa, hro, hfa, hm⟩ : (0 ≤ n ∧ n ≤ 7) ∧ (0 ≤ am ∧ am ≤ 99) ∧ (0 ≤ he ∧ he ≤ 9) ∧ (0 ≤ sa ∧ sa ≤ 9) ∧ (1 ≤ ro ∧ ro ≤ 20) ∧ (1 ≤ fa ∧ fa ≤ 20) ∧ ∀ i : Int, 0 ≤ i → i < n → okM (kd i) (sp i) (hu i) (be i) := id hv
  refine zCi_in hI (by decide +kernel) (Nat.le_of_ble_eq_true rfl) (fun X O hE => ?_)
  refine r_iconst O dX3_sum_0 ?_
  refine n_istore_n O dX3_sum_1 (by decide) rfl ?_
  refine r_iconst O dX3_sum_2 ?_
  refine n_istore_n O dX3_sum_3 (by decide) rfl ?_
  have L4 : ∀ (zk : Nat) (i : Nat), ((i : Int) ≤ n) → 7 - i = zk → G K X 4 4 [(0, .ref (kad K (6 * j + 13))), (1, .ref (kad K (6 * j + 18))), (2, .int (iI (sumI ea i))), (3, .int (iI (i : Int)))] [] (layC K (wS c j (n, am, he, sa, ro, fa, kd, sp, hu, be, ea))) := by
    intro zk
    induction zk using Nat.strongRecOn with
    | ind zk ih4 =>
      intro i hinv hk
      refine n_iload_n O dX3_sum_4 rfl ?_
      refine n_aload_n O dX3_sum_5 rfl ?_
      refine s_get_n O hN hj fl_X3_27 dX3_sum_6 ?_
      refine r_icmp_ge (tgt := 30) O ⟨by omega, by omega⟩ ⟨by omega, by omega⟩ dX3_sum_9 (by decide) (fun hc9 => ?_) (fun hc9 => ?_)
      · skip
        refine n_iload_n O dX3_sum_30 rfl ?_
        exact hE _ _ _ _ dX3_sum_31 rfl (by have hin : n.toNat = i := (by omega); rw [hin]; exact ⟨rfl, rfl⟩)
      · skip
        refine n_iload_n O dX3_sum_12 rfl ?_
        refine n_aload_n O dX3_sum_13 rfl ?_
        refine s_len_ea O hN hj dX3_sum_14 ?_
        refine r_icmp_ge (tgt := 30) O ⟨by omega, by omega⟩ ⟨by omega, by omega⟩ dX3_sum_15 (by decide) (fun hc15 => ?_) (fun hc15 => ?_)
        · skip
          refine n_iload_n O dX3_sum_30 rfl ?_
          exact hE _ _ _ _ dX3_sum_31 rfl (by have hin : n.toNat = i := (by omega); rw [hin]; exact ⟨rfl, rfl⟩)
        · skip
          refine n_iload_n O dX3_sum_18 rfl ?_
          refine n_aload_n O dX3_sum_19 rfl ?_
          refine n_iload_n O dX3_sum_20 rfl ?_
          refine s_ld_ea O hN hj (by omega) (by omega) dX3_sum_21 ?_
          refine r_iadd O dX3_sum_22 ?_
          refine n_istore_n O dX3_sum_23 (by decide) rfl ?_
          refine n_iinc O dX3_sum_24 (by decide) rfl rfl ?_
          refine r_goto (tgt := 4) O dX3_sum_27 (by decide) ?_
          exact G_chk (ih4 _ (by omega) (i + 1) (by omega) rfl) (zsc rfl (zsc rfl (zsc rfl (zsc rfl zsn))))
  exact G_chk (L4 _ 0 (by omega) rfl) (zsc rfl (zsc rfl (zsc rfl (zsc rfl zsn))))
set_option maxHeartbeats 4000000 in
theorem C_X3_hungerOfAll {K : zK} (hI : zInj K) (hN : kN K = 85) (c : CS) (j : Nat) (hj : j < 12) (n am he sa ro fa : Int) (kd sp hu be ea : Int → Int) (hv : okV (n, am, he, sa, ro, fa, kd, sp, hu, be, ea)) : zCi K yX3_hungerOfAll cX3_hungerOfAll 1 (some .int) 1 [.ref (kad K (6 * j + 13))] (layC K (wS c j (n, am, he, sa, ro, fa, kd, sp, hu, be, ea))) (fun z u => z = sumI hu n.toNat ∧ u = (layC K (wS c j (n, am, he, sa, ro, fa, kd, sp, hu, be, ea)))) := by
  refine zCi_in hI (by decide +kernel) (Nat.le_of_ble_eq_true rfl) (fun X O hE => ?_)
  refine n_aload_n O dX3_hungerOfAll_0 rfl ?_
  refine n_aload_n O dX3_hungerOfAll_1 rfl ?_
  refine s_arr_hu O hN hj fl_X3_18 dX3_hungerOfAll_2 ?_
  refine r_callV1i O (C_X3_sum_hu hI hN _ _ hj _ _ _ _ _ _ _ _ _ _ _ hv) q_X3_98 (by rw [hN]; omega) (lay_q K _ _ _ 0 (by omega) (by decide) rfl) rfl rfl (by decide) (by decide) (Nat.le_of_ble_eq_true rfl) dX3_hungerOfAll_5 (fun zz5 zu5 hz5 => ?_)
  obtain ⟨rfl, rfl⟩ := hz5
  exact hE _ _ _ _ dX3_hungerOfAll_8 rfl ⟨rfl, rfl⟩
theorem D_X3_hungerOfAll {K : zK} (hI : zInj K) (hN : kN K = 85) (c : CS) (j : Nat) (hj : j < 12) (v : SV) (hv : okV v)  : zCi K yX3_hungerOfAll cX3_hungerOfAll 1 (some .int) 1 [.ref (kad K (6 * j + 13))] (layC K (wS c j v)) (fun z u => z = sumI (qhu v) (qn v).toNat ∧ u = layC K (wS c j v)) := by
  obtain ⟨n, am, he, sa, ro, fa, kd, sp, hu, be, ea⟩ := v
  exact C_X3_hungerOfAll hI hN c j hj n am he sa ro fa kd sp hu be ea hv 
set_option maxHeartbeats 4000000 in
theorem C_X3_eatenInAll {K : zK} (hI : zInj K) (hN : kN K = 85) (c : CS) (j : Nat) (hj : j < 12) (n am he sa ro fa : Int) (kd sp hu be ea : Int → Int) (hv : okV (n, am, he, sa, ro, fa, kd, sp, hu, be, ea)) : zCi K yX3_eatenInAll cX3_eatenInAll 1 (some .int) 1 [.ref (kad K (6 * j + 13))] (layC K (wS c j (n, am, he, sa, ro, fa, kd, sp, hu, be, ea))) (fun z u => z = sumI ea n.toNat ∧ u = (layC K (wS c j (n, am, he, sa, ro, fa, kd, sp, hu, be, ea)))) := by
  refine zCi_in hI (by decide +kernel) (Nat.le_of_ble_eq_true rfl) (fun X O hE => ?_)
  refine n_aload_n O dX3_eatenInAll_0 rfl ?_
  refine n_aload_n O dX3_eatenInAll_1 rfl ?_
  refine s_arr_ea O hN hj fl_X3_24 dX3_eatenInAll_2 ?_
  refine r_callV1i O (C_X3_sum_ea hI hN _ _ hj _ _ _ _ _ _ _ _ _ _ _ hv) q_X3_98 (by rw [hN]; omega) (lay_q K _ _ _ 0 (by omega) (by decide) rfl) rfl rfl (by decide) (by decide) (Nat.le_of_ble_eq_true rfl) dX3_eatenInAll_5 (fun zz5 zu5 hz5 => ?_)
  obtain ⟨rfl, rfl⟩ := hz5
  exact hE _ _ _ _ dX3_eatenInAll_8 rfl ⟨rfl, rfl⟩
theorem D_X3_eatenInAll {K : zK} (hI : zInj K) (hN : kN K = 85) (c : CS) (j : Nat) (hj : j < 12) (v : SV) (hv : okV v)  : zCi K yX3_eatenInAll cX3_eatenInAll 1 (some .int) 1 [.ref (kad K (6 * j + 13))] (layC K (wS c j v)) (fun z u => z = sumI (qea v) (qn v).toNat ∧ u = layC K (wS c j v)) := by
  obtain ⟨n, am, he, sa, ro, fa, kd, sp, hu, be, ea⟩ := v
  exact C_X3_eatenInAll hI hN c j hj n am he sa ro fa kd sp hu be ea hv 
set_option maxHeartbeats 4000000 in
theorem C_X3_fastDay {K : zK} (hI : zInj K) (hN : kN K = 85) (c : CS) (j : Nat) (hj : j < 12) (n am he sa ro fa : Int) (kd sp hu be ea : Int → Int) (hv : okV (n, am, he, sa, ro, fa, kd, sp, hu, be, ea)) : zCv K yX3_fastDay cX3_fastDay 2 1 [.ref (kad K (6 * j + 13))] (layC K (wS c j (n, am, he, sa, ro, fa, kd, sp, hu, be, ea))) (fun u => u = layC K (wS c j (fastV (n, am, he, sa, ro, fa, kd, sp, hu, be, ea)))) := by
  obtain ⟨hn, ham, hhe, hsa, hro, hfa, hm⟩ : (0 ≤ n ∧ n ≤ 7) ∧ (0 ≤ am ∧ am ≤ 99) ∧ (0 ≤ he ∧ he ≤ 9) ∧ (0 ≤ sa ∧ sa ≤ 9) ∧ (1 ≤ ro ∧ ro ≤ 20) ∧ (1 ≤ fa ∧ fa ≤ 20) ∧ ∀ i : Int, 0 ≤ i → i < n → okM (kd i) (sp i) (hu i) (be i) := id hv
  refine zCv_in hI (by decide +kernel) (Nat.le_of_ble_eq_true rfl) (fun X O hE => ?_)
  refine r_iconst O dX3_fastDay_0 ?_
  refine n_istore_n O dX3_fastDay_1 (by decide) rfl ?_
  have L2 : ∀ (zk : Nat) (i : Nat), ((i : Int) ≤ n) → 7 - i = zk → G K X 2 2 [(0, .ref (kad K (6 * j + 13))), (1, .int (iI (i : Int)))] [] (layC K (wS c j (n, am, he, sa, ro, fa, kd, sp, (fastN (n, am, he, sa, ro, fa, kd, sp, hu, be, ea) i), be, ea))) := by
    intro zk
    induction zk using Nat.strongRecOn with
    | ind zk ih2 =>
      intro i hinv hk
      refine n_iload_n O dX3_fastDay_2 rfl ?_
      refine n_aload_n O dX3_fastDay_3 rfl ?_
      refine s_get_n O hN hj fl_X3_27 dX3_fastDay_4 ?_
      refine r_icmp_ge (tgt := 38) O ⟨by omega, by omega⟩ ⟨by omega, by omega⟩ dX3_fastDay_7 (by decide) (fun hc7 => ?_) (fun hc7 => ?_)
      · skip
        refine n_aload_n O dX3_fastDay_38 rfl ?_
        refine r_iconst O dX3_fastDay_39 ?_
        refine s_put_he O hN hj fl_X3_34 dX3_fastDay_40 ?_
        exact hE _ _ _ dX3_fastDay_43 (by have hin : n.toNat = i := (by omega); show _ = layC K (wS c j (n, am, 0, sa, ro, fa, kd, sp, fastN (n, am, he, sa, ro, fa, kd, sp, hu, be, ea) n.toNat, be, ea)); rw [hin])
      · skip
        have hmi : okM (kd (i : Int)) (sp (i : Int)) (hu (i : Int)) (be (i : Int)) := hm i (by omega) (by omega)
        have h3 := hmi.2.2.1
        have hf : fastN (n, am, he, sa, ro, fa, kd, sp, hu, be, ea) i (i : Int) = hu (i : Int) := by rw [fastN_eq, if_neg (by omega)]; rfl
        refine n_aload_n O dX3_fastDay_10 rfl ?_
        refine s_arr_hu O hN hj fl_X3_18 dX3_fastDay_11 ?_
        refine n_iload_n O dX3_fastDay_14 rfl ?_
        refine n_aload_n O dX3_fastDay_15 rfl ?_
        refine s_arr_hu O hN hj fl_X3_18 dX3_fastDay_16 ?_
        refine n_iload_n O dX3_fastDay_19 rfl ?_
        refine s_ld_hu O hN hj (by omega) (by omega) dX3_fastDay_20 ?_
        refine n_aload_n O dX3_fastDay_21 rfl ?_
        refine s_get_fa O hN hj fl_X3_43 dX3_fastDay_22 ?_
        refine r_iadd O dX3_fastDay_25 ?_
        refine r_bipush O (by decide +kernel) dX3_fastDay_26 ?_
        refine r_min O qm_X3_60 (by decide) (Nat.le_of_ble_eq_true rfl) ⟨by omega, by omega⟩ ⟨by omega, by omega⟩ dX3_fastDay_28 ?_
        refine s_st_hu O hN hj (by omega) (by omega) dX3_fastDay_31 ?_
        refine n_iinc O dX3_fastDay_32 (by decide) rfl rfl ?_
        refine r_goto (tgt := 2) O dX3_fastDay_35 (by decide) ?_
        exact G_chk (ih2 _ (by omega) (i + 1) (by omega) rfl) (zsc rfl (zsc rfl zsn))
  exact G_chk (L2 _ 0 (by omega) rfl) (zsc rfl (zsc rfl zsn))
theorem D_X3_fastDay {K : zK} (hI : zInj K) (hN : kN K = 85) (c : CS) (j : Nat) (hj : j < 12) (v : SV) (hv : okV v)  : zCv K yX3_fastDay cX3_fastDay 2 1 [.ref (kad K (6 * j + 13))] (layC K (wS c j v)) (fun u => u = layC K (wS c j (fastV v))) := by
  obtain ⟨n, am, he, sa, ro, fa, kd, sp, hu, be, ea⟩ := v
  exact C_X3_fastDay hI hN c j hj n am he sa ro fa kd sp hu be ea hv 
set_option maxHeartbeats 4000000 in
theorem C_X3_liveBy {K : zK} (hI : zInj K) (hN : kN K = 85) (c : CS) (j : Nat) (hj : j < 12) (n am he sa ro fa : Int) (kd sp hu be ea : Int → Int) (hv : okV (n, am, he, sa, ro, fa, kd, sp, hu, be, ea)) (d : Int) (hd0 : 0 ≤ d) (hd1 : d ≤ 8190) : zCv K yX3_liveBy cX3_liveBy 3 4 [.ref (kad K (6 * j + 13)), .int (iI d)] (layC K (wS c j (n, am, he, sa, ro, fa, kd, sp, hu, be, ea))) (fun u => u = layC K (wS c j (liveV (n, am, he, sa, ro, fa, kd, sp, hu, be, ea) d))) := by
  obtain ⟨hn, ham, hhe, hsa, hro, hfa, hm⟩ : (0 ≤ n ∧ n ≤ 7) ∧ (0 ≤ am ∧ am ≤ 99) ∧ (0 ≤ he ∧ he ≤ 9) ∧ (0 ≤ sa ∧ sa ≤ 9) ∧ (1 ≤ ro ∧ ro ≤ 20) ∧ (1 ≤ fa ∧ fa ≤ 20) ∧ ∀ i : Int, 0 ≤ i → i < n → okM (kd i) (sp i) (hu i) (be i) := id hv
  have e1 : 0 ≤ d / 4 := by omega
  refine zCv_in hI (by decide +kernel) (Nat.le_of_ble_eq_true rfl) (fun X O hE => ?_)
  refine n_iload_n O dX3_liveBy_0 rfl ?_
  refine r_iconst O dX3_liveBy_1 ?_
  refine r_idiv O (iI_ne0 (by decide) (by decide)) (iI_div (by omega) (by omega) (by decide) (by decide)) dX3_liveBy_2 ?_
  refine n_istore_n O dX3_liveBy_3 (by decide) rfl ?_
  refine n_iload_n O dX3_liveBy_4 rfl ?_
  refine r_iconst O dX3_liveBy_5 ?_
  refine r_irem O (iI_ne0 (by decide) (by decide)) (iI_rem (by omega) (by omega) (by decide) (by decide)) dX3_liveBy_6 ?_
  have hsw : d % 4 < 0 ∨ 2 < d % 4 ∨ d % 4 = 0 ∨ d % 4 = 1 ∨ d % 4 = 2 := by omega
  rcases hsw with hsw | hsw | hsw | hsw | hsw
  · skip
    exfalso; omega
  · skip
    refine r_tabOut (tgt := 75) O ⟨by omega, by omega⟩ dX3_liveBy_7 (Or.inr hsw) (by decide) ?_
    refine n_aload_n O dX3_liveBy_75 rfl ?_
    refine r_callV0v O (D_X3_fastDay hI hN _ _ hj _ hv) q_X3_95 (by rw [hN]; omega) (lay_q K _ _ _ 0 (by omega) (by decide) rfl) rfl rfl (by decide) (by decide) (Nat.le_of_ble_eq_true rfl) dX3_liveBy_76 (fun zu76 hz76 => ?_)
    obtain rfl := hz76
    exact hE _ _ _ dX3_liveBy_79 (by show _ = layC K (wS c j (liveV (n, am, he, sa, ro, fa, kd, sp, hu, be, ea) d)); unfold liveV; repeat (first | rw [if_pos (by omega)] | rw [if_neg (by omega)] | rw [if_pos (by show am < _; omega)] | rw [if_neg (by show ¬ am < _; omega)]))
  · skip
    refine r_tabIn (off := 25) (tgt := 32) O ⟨by omega, by omega⟩ dX3_liveBy_7 (by omega) (by omega) (by rw [hsw]; rfl) (by decide) ?_
    refine n_aload_n O dX3_liveBy_32 rfl ?_
    refine r_callV0i O (D_X3_eatRound hI hN _ _ hj _ hv) q_X3_75 (by rw [hN]; omega) (lay_q K _ _ _ 0 (by omega) (by decide) rfl) rfl rfl (by decide) (by decide) (Nat.le_of_ble_eq_true rfl) dX3_liveBy_33 (fun zz33 zu33 hz33 => ?_)
    obtain ⟨rfl, rfl⟩ := hz33
    refine r_pop O rfl dX3_liveBy_36 ?_
    refine r_goto (tgt := 79) O dX3_liveBy_37 (by decide) ?_
    exact hE _ _ _ dX3_liveBy_79 (by show _ = layC K (wS c j (liveV (n, am, he, sa, ro, fa, kd, sp, hu, be, ea) d)); unfold liveV; repeat (first | rw [if_pos (by omega)] | rw [if_neg (by omega)] | rw [if_pos (by show am < _; omega)] | rw [if_neg (by show ¬ am < _; omega)]))
  · skip
    refine r_tabIn (off := 33) (tgt := 40) O ⟨by omega, by omega⟩ dX3_liveBy_7 (by omega) (by omega) (by rw [hsw]; rfl) (by decide) ?_
    refine n_iload_n O dX3_liveBy_40 rfl ?_
    refine r_bipush O (by decide +kernel) dX3_liveBy_41 ?_
    refine r_irem O (iI_ne0 (by decide) (by decide)) (iI_rem (by omega) (by omega) (by decide) (by decide)) dX3_liveBy_43 ?_
    refine n_aload_n O dX3_liveBy_44 rfl ?_
    refine s_get_am O hN hj fl_X3_31 dX3_liveBy_45 ?_
    refine r_icmp_le (tgt := 79) O ⟨by omega, by omega⟩ ⟨by omega, by omega⟩ dX3_liveBy_48 (by decide) (fun hc48 => ?_) (fun hc48 => ?_)
    · skip
      exact hE _ _ _ dX3_liveBy_79 (by show _ = layC K (wS c j (liveV (n, am, he, sa, ro, fa, kd, sp, hu, be, ea) d)); unfold liveV; repeat (first | rw [if_pos (by omega)] | rw [if_neg (by omega)] | rw [if_pos (by show am < _; omega)] | rw [if_neg (by show ¬ am < _; omega)]))
    · skip
      refine n_aload_n O dX3_liveBy_51 rfl ?_
      refine n_iload_n O dX3_liveBy_52 rfl ?_
      refine r_bipush O (by decide +kernel) dX3_liveBy_53 ?_
      refine r_irem O (iI_ne0 (by decide) (by decide)) (iI_rem (by omega) (by omega) (by decide) (by decide)) dX3_liveBy_55 ?_
      refine r_callV1v O (D_X3_cookTo hI hN _ _ hj _ _) q_X3_88 (by rw [hN]; omega) (lay_q K _ _ _ 0 (by omega) (by decide) rfl) rfl rfl (by decide) (by decide) (Nat.le_of_ble_eq_true rfl) dX3_liveBy_56 (fun zu56 hz56 => ?_)
      obtain rfl := hz56
      refine r_goto (tgt := 79) O dX3_liveBy_59 (by decide) ?_
      exact hE _ _ _ dX3_liveBy_79 (by show _ = layC K (wS c j (liveV (n, am, he, sa, ro, fa, kd, sp, hu, be, ea) d)); unfold liveV; repeat (first | rw [if_pos (by omega)] | rw [if_neg (by omega)] | rw [if_pos (by show am < _; omega)] | rw [if_neg (by show ¬ am < _; omega)]))
  · skip
    refine r_tabIn (off := 55) (tgt := 62) O ⟨by omega, by omega⟩ dX3_liveBy_7 (by omega) (by omega) (by rw [hsw]; rfl) (by decide) ?_
    refine n_iload_n O dX3_liveBy_62 rfl ?_
    refine r_iconst O dX3_liveBy_63 ?_
    refine r_irem O (iI_ne0 (by decide) (by decide)) (iI_rem (by omega) (by omega) (by decide) (by decide)) dX3_liveBy_64 ?_
    refine r_if_ne (tgt := 79) O ⟨by omega, by omega⟩ dX3_liveBy_65 (by decide) (fun hc65 => ?_) (fun hc65 => ?_)
    · skip
      exact hE _ _ _ dX3_liveBy_79 (by show _ = layC K (wS c j (liveV (n, am, he, sa, ro, fa, kd, sp, hu, be, ea) d)); unfold liveV; repeat (first | rw [if_pos (by omega)] | rw [if_neg (by omega)] | rw [if_pos (by show am < _; omega)] | rw [if_neg (by show ¬ am < _; omega)]))
    · skip
      refine n_aload_n O dX3_liveBy_68 rfl ?_
      refine r_callV0v O (D_X3_putSalt hI hN _ _ hj _ hv) q_X3_92 (by rw [hN]; omega) (lay_q K _ _ _ 0 (by omega) (by decide) rfl) rfl rfl (by decide) (by decide) (Nat.le_of_ble_eq_true rfl) dX3_liveBy_69 (fun zu69 hz69 => ?_)
      obtain rfl := hz69
      refine r_goto (tgt := 79) O dX3_liveBy_72 (by decide) ?_
      exact hE _ _ _ dX3_liveBy_79 (by show _ = layC K (wS c j (liveV (n, am, he, sa, ro, fa, kd, sp, hu, be, ea) d)); unfold liveV; repeat (first | rw [if_pos (by omega)] | rw [if_neg (by omega)] | rw [if_pos (by show am < _; omega)] | rw [if_neg (by show ¬ am < _; omega)]))
theorem D_X3_liveBy {K : zK} (hI : zInj K) (hN : kN K = 85) (c : CS) (j : Nat) (hj : j < 12) (v : SV) (hv : okV v) (d : Int) (hd0 : 0 ≤ d) (hd1 : d ≤ 8190) : zCv K yX3_liveBy cX3_liveBy 3 4 [.ref (kad K (6 * j + 13)), .int (iI d)] (layC K (wS c j v)) (fun u => u = layC K (wS c j (liveV v d))) := by
  obtain ⟨n, am, he, sa, ro, fa, kd, sp, hu, be, ea⟩ := v
  exact C_X3_liveBy hI hN c j hj n am he sa ro fa kd sp hu be ea hv d hd0 hd1
set_option maxHeartbeats 4000000 in
theorem C_X3_takeMember {K : zK} (hI : zInj K) (hN : kN K = 85) (c : CS) (j : Nat) (hj : j < 12) (n am he sa ro fa : Int) (kd sp hu be ea : Int → Int) (hn : 0 ≤ n ∧ n ≤ 7) (k s h b : Int) (bk : zB k) (bs : zB s) (bh : zB h) (bb : zB b)  : zCi K yX3_takeMember cX3_takeMember 5 (some .boolean) 1 [.ref (kad K (6 * j + 13)), .int (iI k), .int (iI s), .int (iI h), .int (iI b)] (layC K (wS c j (n, am, he, sa, ro, fa, kd, sp, hu, be, ea))) (fun z u => ((okM k s h b ∧ n ≤ 6) ∧ z = 1 ∧ u = layC K (wS c j (memV (n, am, he, sa, ro, fa, kd, sp, hu, be, ea) k s h b))) ∨ (¬ (okM k s h b ∧ n ≤ 6) ∧ z = 0 ∧ u = (layC K (wS c j (n, am, he, sa, ro, fa, kd, sp, hu, be, ea))))) := by
  obtain ⟨bk1, bk2⟩ := id bk
  obtain ⟨bs1, bs2⟩ := id bs
  obtain ⟨bh1, bh2⟩ := id bh
  obtain ⟨bb1, bb2⟩ := id bb
  refine zCi_in hI (by decide +kernel) (Nat.le_of_ble_eq_true rfl) (fun X O hE => ?_)
  refine n_iload_n O dX3_takeMember_0 rfl ?_
  refine r_iconst O dX3_takeMember_1 ?_
  refine r_iconst O dX3_takeMember_2 ?_
  refine r_callN3i O (C_X5_isOutside hI _ _ _ _ ⟨by omega, by omega⟩ ⟨by omega, by omega⟩ ⟨by omega, by omega⟩) q_X3_46 (by decide) (by decide) (Nat.le_of_ble_eq_true rfl) dX3_takeMember_3 (fun zz3 zu3 hz3 => ?_)
  obtain ⟨hz3, rfl⟩ := hz3
  have ho3 := outV_c hz3
  refine r_if_ne (tgt := 53) O ⟨by omega, by omega⟩ dX3_takeMember_6 (by decide) (fun hc6 => ?_) (fun hc6 => ?_)
  · skip
    refine r_iconst O dX3_takeMember_53 ?_
    exact hE _ _ _ _ dX3_takeMember_54 (nar01 (by omega)) (by first | exact Or.inr ⟨by unfold okM; omega, rfl, rfl⟩ | exact Or.inl ⟨by unfold okM; omega, rfl, rfl⟩ | exact Or.inr ⟨by omega, rfl, rfl⟩ | exact Or.inl ⟨by omega, rfl, rfl⟩)
  · skip
    refine n_iload_n O dX3_takeMember_9 rfl ?_
    refine r_iconst O dX3_takeMember_10 ?_
    refine r_bipush O (by decide +kernel) dX3_takeMember_11 ?_
    refine r_callN3i O (C_X5_isOutside hI _ _ _ _ ⟨by omega, by omega⟩ ⟨by omega, by omega⟩ ⟨by omega, by omega⟩) q_X3_46 (by decide) (by decide) (Nat.le_of_ble_eq_true rfl) dX3_takeMember_13 (fun zz13 zu13 hz13 => ?_)
    obtain ⟨hz13, rfl⟩ := hz13
    have ho13 := outV_c hz13
    refine r_if_ne (tgt := 53) O ⟨by omega, by omega⟩ dX3_takeMember_16 (by decide) (fun hc16 => ?_) (fun hc16 => ?_)
    · skip
      refine r_iconst O dX3_takeMember_53 ?_
      exact hE _ _ _ _ dX3_takeMember_54 (nar01 (by omega)) (by first | exact Or.inr ⟨by unfold okM; omega, rfl, rfl⟩ | exact Or.inl ⟨by unfold okM; omega, rfl, rfl⟩ | exact Or.inr ⟨by omega, rfl, rfl⟩ | exact Or.inl ⟨by omega, rfl, rfl⟩)
    · skip
      refine n_iload_n O dX3_takeMember_19 rfl ?_
      refine r_iconst O dX3_takeMember_20 ?_
      refine r_bipush O (by decide +kernel) dX3_takeMember_21 ?_
      refine r_callN3i O (C_X5_isOutside hI _ _ _ _ ⟨by omega, by omega⟩ ⟨by omega, by omega⟩ ⟨by omega, by omega⟩) q_X3_46 (by decide) (by decide) (Nat.le_of_ble_eq_true rfl) dX3_takeMember_23 (fun zz23 zu23 hz23 => ?_)
      obtain ⟨hz23, rfl⟩ := hz23
      have ho23 := outV_c hz23
      refine r_if_ne (tgt := 53) O ⟨by omega, by omega⟩ dX3_takeMember_26 (by decide) (fun hc26 => ?_) (fun hc26 => ?_)
      · skip
        refine r_iconst O dX3_takeMember_53 ?_
        exact hE _ _ _ _ dX3_takeMember_54 (nar01 (by omega)) (by first | exact Or.inr ⟨by unfold okM; omega, rfl, rfl⟩ | exact Or.inl ⟨by unfold okM; omega, rfl, rfl⟩ | exact Or.inr ⟨by omega, rfl, rfl⟩ | exact Or.inl ⟨by omega, rfl, rfl⟩)
      · skip
        refine n_iload O dX3_takeMember_29 rfl ?_
        refine r_iconst O dX3_takeMember_31 ?_
        refine r_bipush O (by decide +kernel) dX3_takeMember_32 ?_
        refine r_callN3i O (C_X5_isOutside hI _ _ _ _ ⟨by omega, by omega⟩ ⟨by omega, by omega⟩ ⟨by omega, by omega⟩) q_X3_46 (by decide) (by decide) (Nat.le_of_ble_eq_true rfl) dX3_takeMember_34 (fun zz34 zu34 hz34 => ?_)
        obtain ⟨hz34, rfl⟩ := hz34
        have ho34 := outV_c hz34
        refine r_if_ne (tgt := 53) O ⟨by omega, by omega⟩ dX3_takeMember_37 (by decide) (fun hc37 => ?_) (fun hc37 => ?_)
        · skip
          refine r_iconst O dX3_takeMember_53 ?_
          exact hE _ _ _ _ dX3_takeMember_54 (nar01 (by omega)) (by first | exact Or.inr ⟨by unfold okM; omega, rfl, rfl⟩ | exact Or.inl ⟨by unfold okM; omega, rfl, rfl⟩ | exact Or.inr ⟨by omega, rfl, rfl⟩ | exact Or.inl ⟨by omega, rfl, rfl⟩)
        · skip
          refine n_aload_n O dX3_takeMember_40 rfl ?_
          refine s_get_n O hN hj fl_X3_27 dX3_takeMember_41 ?_
          refine r_iconst O dX3_takeMember_44 ?_
          refine r_bipush O (by decide +kernel) dX3_takeMember_45 ?_
          refine r_callN3i O (C_X5_isOutside hI _ _ _ _ ⟨by omega, by omega⟩ ⟨by omega, by omega⟩ ⟨by omega, by omega⟩) q_X3_46 (by decide) (by decide) (Nat.le_of_ble_eq_true rfl) dX3_takeMember_47 (fun zz47 zu47 hz47 => ?_)
          obtain ⟨hz47, rfl⟩ := hz47
          have ho47 := outV_c hz47
          refine r_if_eq (tgt := 55) O ⟨by omega, by omega⟩ dX3_takeMember_50 (by decide) (fun hc50 => ?_) (fun hc50 => ?_)
          · skip
            refine n_aload_n O dX3_takeMember_55 rfl ?_
            refine s_arr_kd O hN hj fl_X3_9 dX3_takeMember_56 ?_
            refine n_aload_n O dX3_takeMember_59 rfl ?_
            refine s_get_n O hN hj fl_X3_27 dX3_takeMember_60 ?_
            refine n_iload_n O dX3_takeMember_63 rfl ?_
            refine s_st_kd O hN hj (by omega) (by omega) dX3_takeMember_64 ?_
            refine n_aload_n O dX3_takeMember_65 rfl ?_
            refine s_arr_sp O hN hj fl_X3_15 dX3_takeMember_66 ?_
            refine n_aload_n O dX3_takeMember_69 rfl ?_
            refine s_get_n O hN hj fl_X3_27 dX3_takeMember_70 ?_
            refine n_iload_n O dX3_takeMember_73 rfl ?_
            refine s_st_sp O hN hj (by omega) (by omega) dX3_takeMember_74 ?_
            refine n_aload_n O dX3_takeMember_75 rfl ?_
            refine s_arr_hu O hN hj fl_X3_18 dX3_takeMember_76 ?_
            refine n_aload_n O dX3_takeMember_79 rfl ?_
            refine s_get_n O hN hj fl_X3_27 dX3_takeMember_80 ?_
            refine n_iload_n O dX3_takeMember_83 rfl ?_
            refine s_st_hu O hN hj (by omega) (by omega) dX3_takeMember_84 ?_
            refine n_aload_n O dX3_takeMember_85 rfl ?_
            refine s_arr_be O hN hj fl_X3_21 dX3_takeMember_86 ?_
            refine n_aload_n O dX3_takeMember_89 rfl ?_
            refine s_get_n O hN hj fl_X3_27 dX3_takeMember_90 ?_
            refine n_iload O dX3_takeMember_93 rfl ?_
            refine s_st_be O hN hj (by omega) (by omega) dX3_takeMember_95 ?_
            refine n_aload_n O dX3_takeMember_96 rfl ?_
            refine s_arr_ea O hN hj fl_X3_24 dX3_takeMember_97 ?_
            refine n_aload_n O dX3_takeMember_100 rfl ?_
            refine s_get_n O hN hj fl_X3_27 dX3_takeMember_101 ?_
            refine r_iconst O dX3_takeMember_104 ?_
            refine s_st_ea O hN hj (by omega) (by omega) dX3_takeMember_105 ?_
            refine n_aload_n O dX3_takeMember_106 rfl ?_
            refine r_dup O rfl dX3_takeMember_107 ?_
            refine s_get_n O hN hj fl_X3_27 dX3_takeMember_108 ?_
            refine r_iconst O dX3_takeMember_111 ?_
            refine r_iadd O dX3_takeMember_112 ?_
            refine s_put_n O hN hj fl_X3_27 dX3_takeMember_113 ?_
            refine r_iconst O dX3_takeMember_116 ?_
            exact hE _ _ _ _ dX3_takeMember_117 (nar01 (by omega)) (by first | exact Or.inr ⟨by unfold okM; omega, rfl, rfl⟩ | exact Or.inl ⟨by unfold okM; omega, rfl, rfl⟩ | exact Or.inr ⟨by omega, rfl, rfl⟩ | exact Or.inl ⟨by omega, rfl, rfl⟩)
          · skip
            refine r_iconst O dX3_takeMember_53 ?_
            exact hE _ _ _ _ dX3_takeMember_54 (nar01 (by omega)) (by first | exact Or.inr ⟨by unfold okM; omega, rfl, rfl⟩ | exact Or.inl ⟨by unfold okM; omega, rfl, rfl⟩ | exact Or.inr ⟨by omega, rfl, rfl⟩ | exact Or.inl ⟨by omega, rfl, rfl⟩)
theorem D_X3_takeMember {K : zK} (hI : zInj K) (hN : kN K = 85) (c : CS) (j : Nat) (hj : j < 12) (v : SV) (hn : 0 ≤ qn v ∧ qn v ≤ 7) (k s h b : Int) (bk : zB k) (bs : zB s) (bh : zB h) (bb : zB b) : zCi K yX3_takeMember cX3_takeMember 5 (some .boolean) 1 [.ref (kad K (6 * j + 13)), .int (iI k), .int (iI s), .int (iI h), .int (iI b)] (layC K (wS c j v)) (fun z u => ((okM k s h b ∧ qn v ≤ 6) ∧ z = 1 ∧ u = layC K (wS c j (memV v k s h b))) ∨ (¬ (okM k s h b ∧ qn v ≤ 6) ∧ z = 0 ∧ u = layC K (wS c j v))) := by
  obtain ⟨n, am, he, sa, ro, fa, kd, sp, hu, be, ea⟩ := v
  exact C_X3_takeMember hI hN c j hj n am he sa ro fa kd sp hu be ea hn k s h b bk bs bh bb
set_option maxHeartbeats 4000000 in
theorem C_X3_takePot {K : zK} (hI : zInj K) (hN : kN K = 85) (c : CS) (j : Nat) (hj : j < 12) (n am he sa ro fa : Int) (kd sp hu be ea : Int → Int) (hn : 0 ≤ n ∧ n ≤ 7) (a h s : Int) (ba : zB a) (bh : zB h) (bs : zB s)  : zCi K yX3_takePot cX3_takePot 4 (some .boolean) 1 [.ref (kad K (6 * j + 13)), .int (iI a), .int (iI h), .int (iI s)] (layC K (wS c j (n, am, he, sa, ro, fa, kd, sp, hu, be, ea))) (fun z u => (((0 ≤ a ∧ a ≤ 99) ∧ (0 ≤ h ∧ h ≤ 9) ∧ (0 ≤ s ∧ s ≤ 9)) ∧ z = 1 ∧ u = layC K (wS c j (n, a, h, s, ro, fa, kd, sp, hu, be, ea))) ∨ (¬ ((0 ≤ a ∧ a ≤ 99) ∧ (0 ≤ h ∧ h ≤ 9) ∧ (0 ≤ s ∧ s ≤ 9)) ∧ z = 0 ∧ u = (layC K (wS c j (n, am, he, sa, ro, fa, kd, sp, hu, be, ea))))) := by
  obtain ⟨ba1, ba2⟩ := id ba
  obtain ⟨bh1, bh2⟩ := id bh
  obtain ⟨bs1, bs2⟩ := id bs
  refine zCi_in hI (by decide +kernel) (Nat.le_of_ble_eq_true rfl) (fun X O hE => ?_)
  refine n_iload_n O dX3_takePot_0 rfl ?_
  refine r_iconst O dX3_takePot_1 ?_
  refine r_bipush O (by decide +kernel) dX3_takePot_2 ?_
  refine r_callN3i O (C_X5_isOutside hI _ _ _ _ ⟨by omega, by omega⟩ ⟨by omega, by omega⟩ ⟨by omega, by omega⟩) q_X3_46 (by decide) (by decide) (Nat.le_of_ble_eq_true rfl) dX3_takePot_4 (fun zz4 zu4 hz4 => ?_)
  obtain ⟨hz4, rfl⟩ := hz4
  have ho4 := outV_c hz4
  refine r_if_ne (tgt := 30) O ⟨by omega, by omega⟩ dX3_takePot_7 (by decide) (fun hc7 => ?_) (fun hc7 => ?_)
  · skip
    refine r_iconst O dX3_takePot_30 ?_
    exact hE _ _ _ _ dX3_takePot_31 (nar01 (by omega)) (by first | exact Or.inr ⟨by unfold okM; omega, rfl, rfl⟩ | exact Or.inl ⟨by unfold okM; omega, rfl, rfl⟩ | exact Or.inr ⟨by omega, rfl, rfl⟩ | exact Or.inl ⟨by omega, rfl, rfl⟩)
  · skip
    refine n_iload_n O dX3_takePot_10 rfl ?_
    refine r_iconst O dX3_takePot_11 ?_
    refine r_bipush O (by decide +kernel) dX3_takePot_12 ?_
    refine r_callN3i O (C_X5_isOutside hI _ _ _ _ ⟨by omega, by omega⟩ ⟨by omega, by omega⟩ ⟨by omega, by omega⟩) q_X3_46 (by decide) (by decide) (Nat.le_of_ble_eq_true rfl) dX3_takePot_14 (fun zz14 zu14 hz14 => ?_)
    obtain ⟨hz14, rfl⟩ := hz14
    have ho14 := outV_c hz14
    refine r_if_ne (tgt := 30) O ⟨by omega, by omega⟩ dX3_takePot_17 (by decide) (fun hc17 => ?_) (fun hc17 => ?_)
    · skip
      refine r_iconst O dX3_takePot_30 ?_
      exact hE _ _ _ _ dX3_takePot_31 (nar01 (by omega)) (by first | exact Or.inr ⟨by unfold okM; omega, rfl, rfl⟩ | exact Or.inl ⟨by unfold okM; omega, rfl, rfl⟩ | exact Or.inr ⟨by omega, rfl, rfl⟩ | exact Or.inl ⟨by omega, rfl, rfl⟩)
    · skip
      refine n_iload_n O dX3_takePot_20 rfl ?_
      refine r_iconst O dX3_takePot_21 ?_
      refine r_bipush O (by decide +kernel) dX3_takePot_22 ?_
      refine r_callN3i O (C_X5_isOutside hI _ _ _ _ ⟨by omega, by omega⟩ ⟨by omega, by omega⟩ ⟨by omega, by omega⟩) q_X3_46 (by decide) (by decide) (Nat.le_of_ble_eq_true rfl) dX3_takePot_24 (fun zz24 zu24 hz24 => ?_)
      obtain ⟨hz24, rfl⟩ := hz24
      have ho24 := outV_c hz24
      refine r_if_eq (tgt := 32) O ⟨by omega, by omega⟩ dX3_takePot_27 (by decide) (fun hc27 => ?_) (fun hc27 => ?_)
      · skip
        refine n_aload_n O dX3_takePot_32 rfl ?_
        refine n_iload_n O dX3_takePot_33 rfl ?_
        refine s_put_am O hN hj fl_X3_31 dX3_takePot_34 ?_
        refine n_aload_n O dX3_takePot_37 rfl ?_
        refine n_iload_n O dX3_takePot_38 rfl ?_
        refine s_put_he O hN hj fl_X3_34 dX3_takePot_39 ?_
        refine n_aload_n O dX3_takePot_42 rfl ?_
        refine n_iload_n O dX3_takePot_43 rfl ?_
        refine s_put_sa O hN hj fl_X3_37 dX3_takePot_44 ?_
        refine r_iconst O dX3_takePot_47 ?_
        exact hE _ _ _ _ dX3_takePot_48 (nar01 (by omega)) (by first | exact Or.inr ⟨by unfold okM; omega, rfl, rfl⟩ | exact Or.inl ⟨by unfold okM; omega, rfl, rfl⟩ | exact Or.inr ⟨by omega, rfl, rfl⟩ | exact Or.inl ⟨by omega, rfl, rfl⟩)
      · skip
        refine r_iconst O dX3_takePot_30 ?_
        exact hE _ _ _ _ dX3_takePot_31 (nar01 (by omega)) (by first | exact Or.inr ⟨by unfold okM; omega, rfl, rfl⟩ | exact Or.inl ⟨by unfold okM; omega, rfl, rfl⟩ | exact Or.inr ⟨by omega, rfl, rfl⟩ | exact Or.inl ⟨by omega, rfl, rfl⟩)
theorem D_X3_takePot {K : zK} (hI : zInj K) (hN : kN K = 85) (c : CS) (j : Nat) (hj : j < 12) (v : SV) (hn : 0 ≤ qn v ∧ qn v ≤ 7) (a h s : Int) (ba : zB a) (bh : zB h) (bs : zB s) : zCi K yX3_takePot cX3_takePot 4 (some .boolean) 1 [.ref (kad K (6 * j + 13)), .int (iI a), .int (iI h), .int (iI s)] (layC K (wS c j v)) (fun z u => (((0 ≤ a ∧ a ≤ 99) ∧ (0 ≤ h ∧ h ≤ 9) ∧ (0 ≤ s ∧ s ≤ 9)) ∧ z = 1 ∧ u = layC K (wS c j (qn v, a, h, s, qro v, qfa v, qkd v, qsp v, qhu v, qbe v, qea v))) ∨ (¬ ((0 ≤ a ∧ a ≤ 99) ∧ (0 ≤ h ∧ h ≤ 9) ∧ (0 ≤ s ∧ s ≤ 9)) ∧ z = 0 ∧ u = layC K (wS c j v))) := by
  obtain ⟨n, am, he, sa, ro, fa, kd, sp, hu, be, ea⟩ := v
  exact C_X3_takePot hI hN c j hj n am he sa ro fa kd sp hu be ea hn a h s ba bh bs
set_option maxHeartbeats 4000000 in
theorem C_X3_takeRounds {K : zK} (hI : zInj K) (hN : kN K = 85) (c : CS) (j : Nat) (hj : j < 12) (n am he sa ro fa : Int) (kd sp hu be ea : Int → Int) (hn : 0 ≤ n ∧ n ≤ 7) (r : Int) (br : zB r)  : zCi K yX3_takeRounds cX3_takeRounds 2 (some .boolean) 1 [.ref (kad K (6 * j + 13)), .int (iI r)] (layC K (wS c j (n, am, he, sa, ro, fa, kd, sp, hu, be, ea))) (fun z u => ((1 ≤ r ∧ r ≤ 20) ∧ z = 1 ∧ u = layC K (wS c j (n, am, he, sa, r, fa, kd, sp, hu, be, ea))) ∨ (¬ (1 ≤ r ∧ r ≤ 20) ∧ z = 0 ∧ u = (layC K (wS c j (n, am, he, sa, ro, fa, kd, sp, hu, be, ea))))) := by
  obtain ⟨br1, br2⟩ := id br
  refine zCi_in hI (by decide +kernel) (Nat.le_of_ble_eq_true rfl) (fun X O hE => ?_)
  refine n_iload_n O dX3_takeRounds_0 rfl ?_
  refine r_iconst O dX3_takeRounds_1 ?_
  refine r_bipush O (by decide +kernel) dX3_takeRounds_2 ?_
  refine r_callN3i O (C_X5_isOutside hI _ _ _ _ ⟨by omega, by omega⟩ ⟨by omega, by omega⟩ ⟨by omega, by omega⟩) q_X3_46 (by decide) (by decide) (Nat.le_of_ble_eq_true rfl) dX3_takeRounds_4 (fun zz4 zu4 hz4 => ?_)
  obtain ⟨hz4, rfl⟩ := hz4
  have ho4 := outV_c hz4
  refine r_if_eq (tgt := 12) O ⟨by omega, by omega⟩ dX3_takeRounds_7 (by decide) (fun hc7 => ?_) (fun hc7 => ?_)
  · skip
    refine n_aload_n O dX3_takeRounds_12 rfl ?_
    refine n_iload_n O dX3_takeRounds_13 rfl ?_
    refine s_put_ro O hN hj fl_X3_40 dX3_takeRounds_14 ?_
    refine r_iconst O dX3_takeRounds_17 ?_
    exact hE _ _ _ _ dX3_takeRounds_18 (nar01 (by omega)) (by first | exact Or.inr ⟨by unfold okM; omega, rfl, rfl⟩ | exact Or.inl ⟨by unfold okM; omega, rfl, rfl⟩ | exact Or.inr ⟨by omega, rfl, rfl⟩ | exact Or.inl ⟨by omega, rfl, rfl⟩)
  · skip
    refine r_iconst O dX3_takeRounds_10 ?_
    exact hE _ _ _ _ dX3_takeRounds_11 (nar01 (by omega)) (by first | exact Or.inr ⟨by unfold okM; omega, rfl, rfl⟩ | exact Or.inl ⟨by unfold okM; omega, rfl, rfl⟩ | exact Or.inr ⟨by omega, rfl, rfl⟩ | exact Or.inl ⟨by omega, rfl, rfl⟩)
theorem D_X3_takeRounds {K : zK} (hI : zInj K) (hN : kN K = 85) (c : CS) (j : Nat) (hj : j < 12) (v : SV) (hn : 0 ≤ qn v ∧ qn v ≤ 7) (r : Int) (br : zB r) : zCi K yX3_takeRounds cX3_takeRounds 2 (some .boolean) 1 [.ref (kad K (6 * j + 13)), .int (iI r)] (layC K (wS c j v)) (fun z u => ((1 ≤ r ∧ r ≤ 20) ∧ z = 1 ∧ u = layC K (wS c j (qn v, qam v, qhe v, qsa v, r, qfa v, qkd v, qsp v, qhu v, qbe v, qea v))) ∨ (¬ (1 ≤ r ∧ r ≤ 20) ∧ z = 0 ∧ u = layC K (wS c j v))) := by
  obtain ⟨n, am, he, sa, ro, fa, kd, sp, hu, be, ea⟩ := v
  exact C_X3_takeRounds hI hN c j hj n am he sa ro fa kd sp hu be ea hn r br
set_option maxHeartbeats 4000000 in
theorem C_X3_takeFastHunger {K : zK} (hI : zInj K) (hN : kN K = 85) (c : CS) (j : Nat) (hj : j < 12) (n am he sa ro fa : Int) (kd sp hu be ea : Int → Int) (hn : 0 ≤ n ∧ n ≤ 7) (r : Int) (br : zB r)  : zCi K yX3_takeFastHunger cX3_takeFastHunger 2 (some .boolean) 1 [.ref (kad K (6 * j + 13)), .int (iI r)] (layC K (wS c j (n, am, he, sa, ro, fa, kd, sp, hu, be, ea))) (fun z u => ((1 ≤ r ∧ r ≤ 20) ∧ z = 1 ∧ u = layC K (wS c j (n, am, he, sa, ro, r, kd, sp, hu, be, ea))) ∨ (¬ (1 ≤ r ∧ r ≤ 20) ∧ z = 0 ∧ u = (layC K (wS c j (n, am, he, sa, ro, fa, kd, sp, hu, be, ea))))) := by
  obtain ⟨br1, br2⟩ := id br
  refine zCi_in hI (by decide +kernel) (Nat.le_of_ble_eq_true rfl) (fun X O hE => ?_)
  refine n_iload_n O dX3_takeFastHunger_0 rfl ?_
  refine r_iconst O dX3_takeFastHunger_1 ?_
  refine r_bipush O (by decide +kernel) dX3_takeFastHunger_2 ?_
  refine r_callN3i O (C_X5_isOutside hI _ _ _ _ ⟨by omega, by omega⟩ ⟨by omega, by omega⟩ ⟨by omega, by omega⟩) q_X3_46 (by decide) (by decide) (Nat.le_of_ble_eq_true rfl) dX3_takeFastHunger_4 (fun zz4 zu4 hz4 => ?_)
  obtain ⟨hz4, rfl⟩ := hz4
  have ho4 := outV_c hz4
  refine r_if_eq (tgt := 12) O ⟨by omega, by omega⟩ dX3_takeFastHunger_7 (by decide) (fun hc7 => ?_) (fun hc7 => ?_)
  · skip
    refine n_aload_n O dX3_takeFastHunger_12 rfl ?_
    refine n_iload_n O dX3_takeFastHunger_13 rfl ?_
    refine s_put_fa O hN hj fl_X3_43 dX3_takeFastHunger_14 ?_
    refine r_iconst O dX3_takeFastHunger_17 ?_
    exact hE _ _ _ _ dX3_takeFastHunger_18 (nar01 (by omega)) (by first | exact Or.inr ⟨by unfold okM; omega, rfl, rfl⟩ | exact Or.inl ⟨by unfold okM; omega, rfl, rfl⟩ | exact Or.inr ⟨by omega, rfl, rfl⟩ | exact Or.inl ⟨by omega, rfl, rfl⟩)
  · skip
    refine r_iconst O dX3_takeFastHunger_10 ?_
    exact hE _ _ _ _ dX3_takeFastHunger_11 (nar01 (by omega)) (by first | exact Or.inr ⟨by unfold okM; omega, rfl, rfl⟩ | exact Or.inl ⟨by unfold okM; omega, rfl, rfl⟩ | exact Or.inr ⟨by omega, rfl, rfl⟩ | exact Or.inl ⟨by omega, rfl, rfl⟩)
theorem D_X3_takeFastHunger {K : zK} (hI : zInj K) (hN : kN K = 85) (c : CS) (j : Nat) (hj : j < 12) (v : SV) (hn : 0 ≤ qn v ∧ qn v ≤ 7) (r : Int) (br : zB r) : zCi K yX3_takeFastHunger cX3_takeFastHunger 2 (some .boolean) 1 [.ref (kad K (6 * j + 13)), .int (iI r)] (layC K (wS c j v)) (fun z u => ((1 ≤ r ∧ r ≤ 20) ∧ z = 1 ∧ u = layC K (wS c j (qn v, qam v, qhe v, qsa v, qro v, r, qkd v, qsp v, qhu v, qbe v, qea v))) ∨ (¬ (1 ≤ r ∧ r ≤ 20) ∧ z = 0 ∧ u = layC K (wS c j v))) := by
  obtain ⟨n, am, he, sa, ro, fa, kd, sp, hu, be, ea⟩ := v
  exact C_X3_takeFastHunger hI hN c j hj n am he sa ro fa kd sp hu be ea hn r br
theorem E_X3_share {K : zK} (hI : zInj K) (hN : kN K = 85) (c : CS) (j : Nat) (hj : j < 12) (hv : okV (c.1 j)) (i : Int) (h0 : 0 ≤ i) (h1 : i < qn (c.1 j)) : zCi K yX3_share cX3_share 2 (some .int) 2 [.ref (kad K (6 * j + 13)), .int (iI i)] (layC K c) (fun z u => z = shareV (c.1 j) i ∧ u = layC K c) := by
  have h := D_X3_share hI hN c j hj (c.1 j) hv i h0 h1
  rw [wS_id] at h
  exact h
theorem E_X3_waitOnce {K : zK} (hI : zInj K) (hN : kN K = 85) (c : CS) (j : Nat) (hj : j < 12) (hv : okV (c.1 j))  : zCv K yX3_waitOnce cX3_waitOnce 1 1 [.ref (kad K (6 * j + 13))] (layC K c) (fun u => u = layC K (wS c j (waitV (c.1 j)))) := by
  have h := D_X3_waitOnce hI hN c j hj (c.1 j) hv
  rw [wS_id] at h
  exact h
theorem E_X3_putSalt {K : zK} (hI : zInj K) (hN : kN K = 85) (c : CS) (j : Nat) (hj : j < 12) (hv : okV (c.1 j))  : zCv K yX3_putSalt cX3_putSalt 1 1 [.ref (kad K (6 * j + 13))] (layC K c) (fun u => u = layC K (wS c j (saltV (c.1 j)))) := by
  have h := D_X3_putSalt hI hN c j hj (c.1 j) hv
  rw [wS_id] at h
  exact h
theorem E_X3_cookTo {K : zK} (hI : zInj K) (hN : kN K = 85) (c : CS) (j : Nat) (hj : j < 12) (a : Int) : zCv K yX3_cookTo cX3_cookTo 2 0 [.ref (kad K (6 * j + 13)), .int (iI a)] (layC K c) (fun u => u = layC K (wS c j (cookV (c.1 j) a))) := by
  have h := D_X3_cookTo hI hN c j hj (c.1 j) a
  rw [wS_id] at h
  exact h
theorem E_X3_clear {K : zK} (hI : zInj K) (hN : kN K = 85) (c : CS) (j : Nat) (hj : j < 12)  : zCv K yX3_clear cX3_clear 1 0 [.ref (kad K (6 * j + 13))] (layC K c) (fun u => u = layC K (wS c j (clearV (c.1 j)))) := by
  have h := D_X3_clear hI hN c j hj (c.1 j) 
  rw [wS_id] at h
  exact h
theorem E_X3_exchangeSpoons {K : zK} (hI : zInj K) (hN : kN K = 85) (c : CS) (j : Nat) (hj : j < 12) (hv : okV (c.1 j)) (i k : Int) (h0 : 0 ≤ i) (h1 : i < qn (c.1 j)) (h2 : 0 ≤ k) (h3 : k < qn (c.1 j)) : zCv K yX3_exchangeSpoons cX3_exchangeSpoons 5 0 [.ref (kad K (6 * j + 13)), .int (iI i), .int (iI k)] (layC K c) (fun u => u = layC K (wS c j (exchV (c.1 j) i k))) := by
  have h := D_X3_exchangeSpoons hI hN c j hj (c.1 j) hv i k h0 h1 h2 h3
  rw [wS_id] at h
  exact h
theorem E_X3_takeOver {K : zK} (hI : zInj K) (hN : kN K = 85) (c : CS) (j : Nat) (hj : j < 12) (i : Nat) (hi : i < 12) (hne : i ≠ j) : zCv K yX3_takeOver cX3_takeOver 2 1 [.ref (kad K (6 * j + 13)), .ref (kad K (6 * i + 13))] (layC K c) (fun u => u = layC K (wS c j (cpV (c.1 i) (c.1 j)))) := by
  have h := D_X3_takeOver hI hN c j hj (c.1 j) i hi hne
  rw [wS_id] at h
  exact h
theorem E_X3_eatRound {K : zK} (hI : zInj K) (hN : kN K = 85) (c : CS) (j : Nat) (hj : j < 12) (hv : okV (c.1 j))  : zCi K yX3_eatRound cX3_eatRound 4 (some .int) 3 [.ref (kad K (6 * j + 13))] (layC K c) (fun z u => z = (roundV (c.1 j)).2 ∧ u = layC K (wS c j (roundV (c.1 j)).1)) := by
  have h := D_X3_eatRound hI hN c j hj (c.1 j) hv
  rw [wS_id] at h
  exact h
theorem E_X3_eatRounds {K : zK} (hI : zInj K) (hN : kN K = 85) (c : CS) (j : Nat) (hj : j < 12) (hv : okV (c.1 j)) (m : Int) (hm0 : 0 ≤ m) (hm1 : m ≤ 20) : zCi K yX3_eatRounds cX3_eatRounds 5 (some .int) 4 [.ref (kad K (6 * j + 13)), .int (iI m)] (layC K c) (fun z u => z = (roundsV (c.1 j) m.toNat).2 ∧ u = layC K (wS c j (roundsV (c.1 j) m.toNat).1)) := by
  have h := D_X3_eatRounds hI hN c j hj (c.1 j) hv m hm0 hm1
  rw [wS_id] at h
  exact h
theorem E_X3_roundsUntilEmpty {K : zK} (hI : zInj K) (hN : kN K = 85) (c : CS) (j : Nat) (hj : j < 12) (hv : okV (c.1 j))  : zCi K yX3_roundsUntilEmpty cX3_roundsUntilEmpty 2 (some .int) 4 [.ref (kad K (6 * j + 13))] (layC K c) (fun z u => untilP (c.1 j) z ∧ ∃ w : SV, u = layC K (wS c j w)) := by
  have h := D_X3_roundsUntilEmpty hI hN c j hj (c.1 j) hv
  rw [wS_id] at h
  exact h
theorem E_X3_reach {K : zK} (hI : zInj K) (hN : kN K = 85) (c : CS) (j : Nat) (hj : j < 12) (hv : okV (c.1 j)) (i : Int) (h0 : 0 ≤ i) (h1 : i < qn (c.1 j)) : zCi K yX3_reach cX3_reach 4 (some .int) 2 [.ref (kad K (6 * j + 13)), .int (iI i)] (layC K c) (fun z u => z = reachV (c.1 j) i ∧ u = layC K c) := by
  have h := D_X3_reach hI hN c j hj (c.1 j) hv i h0 h1
  rw [wS_id] at h
  exact h
theorem E_X3_reachOfAll {K : zK} (hI : zInj K) (hN : kN K = 85) (c : CS) (j : Nat) (hj : j < 12) (hv : okV (c.1 j))  : zCi K yX3_reachOfAll cX3_reachOfAll 3 (some .int) 3 [.ref (kad K (6 * j + 13))] (layC K c) (fun z u => z = reachA (c.1 j) (qn (c.1 j)).toNat ∧ u = layC K c) := by
  have h := D_X3_reachOfAll hI hN c j hj (c.1 j) hv
  rw [wS_id] at h
  exact h
theorem E_X3_wouldPass {K : zK} (hI : zInj K) (hN : kN K = 85) (c : CS) (j : Nat) (hj : j < 12) (hv : okV (c.1 j))  : zCi K yX3_wouldPass cX3_wouldPass 1 (some .boolean) 4 [.ref (kad K (6 * j + 13))] (layC K c) (fun z u => z = passI (c.1 j) ∧ u = layC K c) := by
  have h := D_X3_wouldPass hI hN c j hj (c.1 j) hv
  rw [wS_id] at h
  exact h
theorem E_X3_hungerOfAll {K : zK} (hI : zInj K) (hN : kN K = 85) (c : CS) (j : Nat) (hj : j < 12) (hv : okV (c.1 j))  : zCi K yX3_hungerOfAll cX3_hungerOfAll 1 (some .int) 1 [.ref (kad K (6 * j + 13))] (layC K c) (fun z u => z = sumI (qhu (c.1 j)) (qn (c.1 j)).toNat ∧ u = layC K c) := by
  have h := D_X3_hungerOfAll hI hN c j hj (c.1 j) hv
  rw [wS_id] at h
  exact h
theorem E_X3_eatenInAll {K : zK} (hI : zInj K) (hN : kN K = 85) (c : CS) (j : Nat) (hj : j < 12) (hv : okV (c.1 j))  : zCi K yX3_eatenInAll cX3_eatenInAll 1 (some .int) 1 [.ref (kad K (6 * j + 13))] (layC K c) (fun z u => z = sumI (qea (c.1 j)) (qn (c.1 j)).toNat ∧ u = layC K c) := by
  have h := D_X3_eatenInAll hI hN c j hj (c.1 j) hv
  rw [wS_id] at h
  exact h
theorem E_X3_fastDay {K : zK} (hI : zInj K) (hN : kN K = 85) (c : CS) (j : Nat) (hj : j < 12) (hv : okV (c.1 j))  : zCv K yX3_fastDay cX3_fastDay 2 1 [.ref (kad K (6 * j + 13))] (layC K c) (fun u => u = layC K (wS c j (fastV (c.1 j)))) := by
  have h := D_X3_fastDay hI hN c j hj (c.1 j) hv
  rw [wS_id] at h
  exact h
theorem E_X3_liveBy {K : zK} (hI : zInj K) (hN : kN K = 85) (c : CS) (j : Nat) (hj : j < 12) (hv : okV (c.1 j)) (d : Int) (hd0 : 0 ≤ d) (hd1 : d ≤ 8190) : zCv K yX3_liveBy cX3_liveBy 3 4 [.ref (kad K (6 * j + 13)), .int (iI d)] (layC K c) (fun u => u = layC K (wS c j (liveV (c.1 j) d))) := by
  have h := D_X3_liveBy hI hN c j hj (c.1 j) hv d hd0 hd1
  rw [wS_id] at h
  exact h
theorem E_X3_takeMember {K : zK} (hI : zInj K) (hN : kN K = 85) (c : CS) (j : Nat) (hj : j < 12) (hn : 0 ≤ qn (c.1 j) ∧ qn (c.1 j) ≤ 7) (k s h b : Int) (bk : zB k) (bs : zB s) (bh : zB h) (bb : zB b) : zCi K yX3_takeMember cX3_takeMember 5 (some .boolean) 1 [.ref (kad K (6 * j + 13)), .int (iI k), .int (iI s), .int (iI h), .int (iI b)] (layC K c) (fun z u => ((okM k s h b ∧ qn (c.1 j) ≤ 6) ∧ z = 1 ∧ u = layC K (wS c j (memV (c.1 j) k s h b))) ∨ (¬ (okM k s h b ∧ qn (c.1 j) ≤ 6) ∧ z = 0 ∧ u = layC K c)) := by
  have h := D_X3_takeMember hI hN c j hj (c.1 j) hn k s h b bk bs bh bb
  rw [wS_id] at h
  exact h
theorem E_X3_takePot {K : zK} (hI : zInj K) (hN : kN K = 85) (c : CS) (j : Nat) (hj : j < 12) (hn : 0 ≤ qn (c.1 j) ∧ qn (c.1 j) ≤ 7) (a h s : Int) (ba : zB a) (bh : zB h) (bs : zB s) : zCi K yX3_takePot cX3_takePot 4 (some .boolean) 1 [.ref (kad K (6 * j + 13)), .int (iI a), .int (iI h), .int (iI s)] (layC K c) (fun z u => (((0 ≤ a ∧ a ≤ 99) ∧ (0 ≤ h ∧ h ≤ 9) ∧ (0 ≤ s ∧ s ≤ 9)) ∧ z = 1 ∧ u = layC K (wS c j (qn (c.1 j), a, h, s, qro (c.1 j), qfa (c.1 j), qkd (c.1 j), qsp (c.1 j), qhu (c.1 j), qbe (c.1 j), qea (c.1 j)))) ∨ (¬ ((0 ≤ a ∧ a ≤ 99) ∧ (0 ≤ h ∧ h ≤ 9) ∧ (0 ≤ s ∧ s ≤ 9)) ∧ z = 0 ∧ u = layC K c)) := by
  have h := D_X3_takePot hI hN c j hj (c.1 j) hn a h s ba bh bs
  rw [wS_id] at h
  exact h
theorem E_X3_takeRounds {K : zK} (hI : zInj K) (hN : kN K = 85) (c : CS) (j : Nat) (hj : j < 12) (hn : 0 ≤ qn (c.1 j) ∧ qn (c.1 j) ≤ 7) (r : Int) (br : zB r) : zCi K yX3_takeRounds cX3_takeRounds 2 (some .boolean) 1 [.ref (kad K (6 * j + 13)), .int (iI r)] (layC K c) (fun z u => ((1 ≤ r ∧ r ≤ 20) ∧ z = 1 ∧ u = layC K (wS c j (qn (c.1 j), qam (c.1 j), qhe (c.1 j), qsa (c.1 j), r, qfa (c.1 j), qkd (c.1 j), qsp (c.1 j), qhu (c.1 j), qbe (c.1 j), qea (c.1 j)))) ∨ (¬ (1 ≤ r ∧ r ≤ 20) ∧ z = 0 ∧ u = layC K c)) := by
  have h := D_X3_takeRounds hI hN c j hj (c.1 j) hn r br
  rw [wS_id] at h
  exact h
theorem E_X3_takeFastHunger {K : zK} (hI : zInj K) (hN : kN K = 85) (c : CS) (j : Nat) (hj : j < 12) (hn : 0 ≤ qn (c.1 j) ∧ qn (c.1 j) ≤ 7) (r : Int) (br : zB r) : zCi K yX3_takeFastHunger cX3_takeFastHunger 2 (some .boolean) 1 [.ref (kad K (6 * j + 13)), .int (iI r)] (layC K c) (fun z u => ((1 ≤ r ∧ r ≤ 20) ∧ z = 1 ∧ u = layC K (wS c j (qn (c.1 j), qam (c.1 j), qhe (c.1 j), qsa (c.1 j), qro (c.1 j), r, qkd (c.1 j), qsp (c.1 j), qhu (c.1 j), qbe (c.1 j), qea (c.1 j)))) ∨ (¬ (1 ≤ r ∧ r ≤ 20) ∧ z = 0 ∧ u = layC K c)) := by
  have h := D_X3_takeFastHunger hI hN c j hj (c.1 j) hn r br
  rw [wS_id] at h
  exact h
