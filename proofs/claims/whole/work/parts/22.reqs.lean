set_option maxHeartbeats 4000000 in
theorem C_X6_isPassed {K : zK} (hI : zInj K) (hM : kN K = 11) (tx : Int → Int) (ty : Int) (td dr bg ss pa : Int → Int) (kn : Int) (im : Int → Int) (kp : Int) (ns : Int → Int) (nd ap la : Int) (hh tt : Int → Int) (v : SV) (hv : okV v) (hr : mR td ss v) (s : Nat) (hs : s < 128)  : zCi K yX6_isPassed cX6_isPassed 2 (some .boolean) 3 [.ref (kad K 0), .int (iI (s : Int))] (layM K tx ty td dr bg ss pa kn im kp ns nd ap la hh tt) (fun z u => z = letsV v s ∧ ∃ (y : Int) (s2 t2 : Int → Int) (w : Int), untilQ v s y ∧ whoP v s y w ∧ mR td s2 v ∧ u = (layM K tx ty td dr bg s2 pa kn im kp ns nd ap w hh t2)) := by
  obtain ⟨hn7, ham, hhe, hsa, hro, hfa, hm⟩ := id hv
  obtain ⟨r1, r2, r3, r4, r5, r6, rm⟩ := id hr
  have hpw := pow_b (qn v).toNat (by omega)
  refine zCi_in hI (by decide +kernel) (Nat.le_of_ble_eq_true rfl) (fun X O hE => ?_)
  refine n_aload_n O dX6_isPassed_0 rfl ?_
  refine n_iload_n O dX6_isPassed_1 rfl ?_
  refine r_callV1i O (C_X6_passesBy hI hM _ _ _ _ _ _ _ _ _ _ _ _ _ _ _ _ v hv hr s hs) q_X6_124 (by rw [hM]; decide) (fs := _) rfl rfl rfl (by decide) (by decide) (Nat.le_of_ble_eq_true rfl) dX6_isPassed_2 (fun zz2 zu2 hz2 => ?_)
  obtain ⟨huq, s2, t2, w, hr2, hwh, rfl⟩ := hz2
  have hub := untilQ_b hv huq
  have hul := untilQ_lets hv huq
  refine r_bipush O (by decide +kernel) dX6_isPassed_5 ?_
  refine r_icmp_eq (tgt := 14) O ⟨by omega, by omega⟩ ⟨by omega, by omega⟩ dX6_isPassed_7 (by decide) (fun hc7 => ?_) (fun hc7 => ?_)
  · skip
    refine r_iconst O dX6_isPassed_14 ?_
    exact hE _ _ _ _ dX6_isPassed_15 (nar01 (by omega)) ⟨by omega, _, _, _, _, huq, hwh, hr2, rfl⟩
  · skip
    refine r_iconst O dX6_isPassed_10 ?_
    refine r_goto (tgt := 15) O dX6_isPassed_11 (by decide) ?_
    exact hE _ _ _ _ dX6_isPassed_15 (nar01 (by omega)) ⟨by omega, _, _, _, _, huq, hwh, hr2, rfl⟩
set_option maxHeartbeats 4000000 in
theorem C_X6_passes {K : zK} (hI : zInj K) (hM : kN K = 11) (tx : Int → Int) (ty : Int) (td dr bg ss pa : Int → Int) (kn : Int) (im : Int → Int) (kp : Int) (ns : Int → Int) (nd ap la : Int) (hh tt : Int → Int) (v : SV) (hv : okV v) (hr : mR td ss v)  : zCi K yX6_passes cX6_passes 1 (some .int) 3 [.ref (kad K 0)] (layM K tx ty td dr bg ss pa kn im kp ns nd ap la hh tt) (fun z u => untilP v z ∧ ∃ (s2 h2 t2 : Int → Int) (w2 : Int), mR td s2 v ∧ u = (layM K tx ty td dr bg s2 pa kn im kp ns nd ap w2 h2 t2)) := by
  obtain ⟨hn7, ham, hhe, hsa, hro, hfa, hm⟩ := id hv
  obtain ⟨r1, r2, r3, r4, r5, r6, rm⟩ := id hr
  have hpw := pow_b (qn v).toNat (by omega)
  refine zCi_in hI (by decide +kernel) (Nat.le_of_ble_eq_true rfl) (fun X O hE => ?_)
  refine n_aload_n O dX6_passes_0 rfl ?_
  refine n_aload_n O dX6_passes_1 rfl ?_
  refine r_callV0i O (C_X6_all hI hM _ _ _ _ _ _ _ _ _ _ _ _ _ _ _ _ (qn v).toNat (by omega) (by omega)) q_X6_104 (by rw [hM]; decide) (fs := _) rfl rfl rfl (by decide) (by decide) (Nat.le_of_ble_eq_true rfl) dX6_passes_2 (fun zz2 zu2 hz2 => ?_)
  obtain ⟨rfl, rfl⟩ := hz2
  refine r_callV1i O (C_X6_passesBy hI hM _ _ _ _ _ _ _ _ _ _ _ _ _ _ _ _ v hv hr (2 ^ (qn v).toNat - 1) (by omega)) q_X6_124 (by rw [hM]; decide) (fs := _) rfl rfl rfl (by decide) (by decide) (Nat.le_of_ble_eq_true rfl) dX6_passes_5 (fun zz5 zu5 hz5 => ?_)
  obtain ⟨huq, s2, t2, w, hr2, hwh, rfl⟩ := hz5
  exact hE _ _ _ _ dX6_passes_8 rfl ⟨untilQ_all hv huq, _, _, _, _, hr2, rfl⟩
set_option maxHeartbeats 4000000 in
theorem C_X6_left {K : zK} (hI : zInj K) (hM : kN K = 11) (tx : Int → Int) (ty : Int) (td dr bg ss pa : Int → Int) (kn : Int) (im : Int → Int) (kp : Int) (ns : Int → Int) (nd ap la : Int) (hh tt : Int → Int) (v : SV) (hv : okV v) (hr : mR td ss v) (n : Int) (bn : zB n)  : zCi K yX6_left cX6_left 3 (some .int) 2 [.ref (kad K 0), .int (iI n)] (layM K tx ty td dr bg ss pa kn im kp ns nd ap la hh tt) (fun z u => ((n < 0 ∨ 20 < n) ∧ z = -1 ∧ u = (layM K tx ty td dr bg ss pa kn im kp ns nd ap la hh tt)) ∨ ((0 ≤ n ∧ n ≤ 20) ∧ z = qam (roundsV v n.toNat).1 ∧ ∃ (s2 h2 t2 : Int → Int) (w2 : Int), mR td s2 v ∧ u = (layM K tx ty td dr bg s2 pa kn im kp ns nd ap w2 h2 t2))) := by
  obtain ⟨hn7, ham, hhe, hsa, hro, hfa, hm⟩ := id hv
  obtain ⟨r1, r2, r3, r4, r5, r6, rm⟩ := id hr
  have hpw := pow_b (qn v).toNat (by omega)
  obtain ⟨bn1, bn2⟩ := id bn
  refine zCi_in hI (by decide +kernel) (Nat.le_of_ble_eq_true rfl) (fun X O hE => ?_)
  refine n_iload_n O dX6_left_0 rfl ?_
  refine r_iconst O dX6_left_1 ?_
  refine r_bipush O (by decide +kernel) dX6_left_2 ?_
  refine r_callS3i O (C_X6_in hI _ _ _ _ ⟨by omega, by omega⟩ ⟨by omega, by omega⟩ ⟨by omega, by omega⟩) q_X6_50 (by decide) (by decide) (Nat.le_of_ble_eq_true rfl) dX6_left_4 (fun zz4 zu4 hz4 => ?_)
  obtain ⟨hzi4, rfl⟩ := hz4
  have hic4 := inI_c hzi4
  refine r_if_ne (tgt := 12) O ⟨by omega, by omega⟩ dX6_left_7 (by decide) (fun hc7 => ?_) (fun hc7 => ?_)
  · skip
    refine n_aload_n O dX6_left_12 rfl ?_
    refine r_callV0v O (C_X6_holds hI hM _ _ _ _ _ _ _ _ _ _ _ _ _ _ _ _ ) q_X6_127 (by rw [hM]; decide) (fs := _) rfl rfl rfl (by decide) (by decide) (Nat.le_of_ble_eq_true rfl) dX6_left_13 (fun zu13 hz13 => ?_)
    obtain ⟨h2, hh2, rfl⟩ := hz13
    refine r_iconst O dX6_left_16 ?_
    refine n_istore_n O dX6_left_17 (by decide) rfl ?_
    have L18 : ∀ (zk : Nat) (k : Nat) (s1 : Int → Int) (lb : Int), ((k : Int) ≤ n ∧ mR td s1 (roundsV v k).1) → 20 - k = zk → G K X 3 18 [(0, .ref (kad K 0)), (1, .int (iI n)), (2, .int (iI (k : Int)))] [] (layM K tx ty td dr bg s1 pa kn im kp ns nd ap lb h2 tt) := by
      intro zk
      induction zk using Nat.strongRecOn with
      | ind zk ih18 =>
        intro k s1 lb hinv hk
        obtain ⟨hk, hq⟩ := hinv
        refine n_iload_n O dX6_left_18 rfl ?_
        refine n_iload_n O dX6_left_19 rfl ?_
        refine r_icmp_ge (tgt := 38) O ⟨by omega, by omega⟩ ⟨by omega, by omega⟩ dX6_left_20 (by decide) (fun hc20 => ?_) (fun hc20 => ?_)
        · skip
          refine n_aload_n O dX6_left_38 rfl ?_
          refine m_get_ss O hM fl_X6_22 dX6_left_39 ?_
          refine r_bipush O (by decide +kernel) dX6_left_42 ?_
          refine m_ld_ss O hM (by omega) (by omega) dX6_left_44 ?_
          refine n_istore_n O dX6_left_45 (by decide) rfl ?_
          refine n_aload_n O dX6_left_46 rfl ?_
          refine r_callV0v O (C_X6_lets hI hM _ _ _ _ _ _ _ _ _ _ _ _ _ _ _ _ ) q_X6_130 (by rw [hM]; decide) (fs := _) rfl rfl rfl (by decide) (by decide) (Nat.le_of_ble_eq_true rfl) dX6_left_47 (fun zu47 hz47 => ?_)
          obtain ⟨s5, hs5, rfl⟩ := hz47
          have hr5 := mR_31 hr (by omega) (fun y h0 h1 => (hs5 y h0 h1).trans (hh2 y h0 h1))
          refine n_iload_n O dX6_left_50 rfl ?_
          exact hE _ _ _ _ dX6_left_51 rfl (Or.inr ⟨by omega, by (have e : n.toNat = k := by omega); rw [e]; exact hq.2.1, _, _, _, _, hr5, rfl⟩)
        · skip
          refine n_aload_n O dX6_left_23 rfl ?_
          refine n_aload_n O dX6_left_24 rfl ?_
          refine r_callV0i O (C_X6_all hI hM _ _ _ _ _ _ _ _ _ _ _ _ _ _ _ _ (qn v).toNat (by omega) (by omega)) q_X6_104 (by rw [hM]; decide) (fs := _) rfl rfl rfl (by decide) (by decide) (Nat.le_of_ble_eq_true rfl) dX6_left_25 (fun zz25 zu25 hz25 => ?_)
          obtain ⟨rfl, rfl⟩ := hz25
          refine r_callV1i O (C_X6_eats hI hM _ _ _ _ _ _ _ _ _ _ _ _ _ _ _ _ (roundsV v k).1 (okV_roundsV hv k) hq (2 ^ (qn v).toNat - 1) (by omega)) q_X6_107 (by rw [hM]; decide) (fs := _) rfl rfl rfl (by decide) (by decide) (Nat.le_of_ble_eq_true rfl) dX6_left_28 (fun zz28 zu28 hz28 => ?_)
          obtain ⟨_, s3, hq3, rfl⟩ := hz28
          have hra := roundQ_all (okV_roundsV hv k)
          rw [roundsV_n] at hra
          rw [hra] at hq3
          refine r_pop O rfl dX6_left_31 ?_
          refine n_iinc O dX6_left_32 (by decide) rfl rfl ?_
          refine r_goto (tgt := 18) O dX6_left_35 (by decide) ?_
          exact G_chk (ih18 _ (by omega) (k + 1) _ _ ⟨by omega, hq3⟩ rfl) (zsc rfl (zsc rfl (zsc rfl zsn)))
    exact G_chk (L18 _ 0 ss la ⟨by omega, hr⟩ rfl) (zsc rfl (zsc rfl (zsc rfl zsn)))
  · skip
    refine r_iconst O dX6_left_10 ?_
    exact hE _ _ _ _ dX6_left_11 rfl (Or.inl ⟨by omega, rfl, rfl⟩)
set_option maxHeartbeats 4000000 in
theorem C_X6_scraper {K : zK} (hI : zInj K) (hM : kN K = 11) (tx : Int → Int) (ty : Int) (td dr bg ss pa : Int → Int) (kn : Int) (im : Int → Int) (kp : Int) (ns : Int → Int) (nd ap la : Int) (hh tt : Int → Int) (v : SV) (hv : okV v) (hr : mR td ss v)  : zCi K yX6_scraper cX6_scraper 1 (some .int) 4 [.ref (kad K 0)] (layM K tx ty td dr bg ss pa kn im kp ns nd ap la hh tt) (fun z u => z = (roundsV v (qro v).toNat).2 ∧ ∃ (s2 h2 t2 : Int → Int) (w2 : Int), mR td s2 v ∧ u = (layM K tx ty td dr bg s2 pa kn im kp ns nd ap w2 h2 t2)) := by
  obtain ⟨hn7, ham, hhe, hsa, hro, hfa, hm⟩ := id hv
  obtain ⟨r1, r2, r3, r4, r5, r6, rm⟩ := id hr
  have hpw := pow_b (qn v).toNat (by omega)
  refine zCi_in hI (by decide +kernel) (Nat.le_of_ble_eq_true rfl) (fun X O hE => ?_)
  refine n_aload_n O dX6_scraper_0 rfl ?_
  refine n_aload_n O dX6_scraper_1 rfl ?_
  refine r_callV0i O (C_X6_all hI hM _ _ _ _ _ _ _ _ _ _ _ _ _ _ _ _ (qn v).toNat (by omega) (by omega)) q_X6_104 (by rw [hM]; decide) (fs := _) rfl rfl rfl (by decide) (by decide) (Nat.le_of_ble_eq_true rfl) dX6_scraper_2 (fun zz2 zu2 hz2 => ?_)
  obtain ⟨rfl, rfl⟩ := hz2
  refine r_callV1i O (C_X6_isPassed hI hM _ _ _ _ _ _ _ _ _ _ _ _ _ _ _ _ v hv hr (2 ^ (qn v).toNat - 1) (by omega)) q_X6_133 (by rw [hM]; decide) (fs := _) rfl rfl rfl (by decide) (by decide) (Nat.le_of_ble_eq_true rfl) dX6_scraper_5 (fun zz5 zu5 hz5 => ?_)
  obtain ⟨hzp5, y5, s5, t5, w5, huq5, hwh5, hmr5, rfl⟩ := hz5
  have h015 := letsV_01 v (2 ^ (qn v).toNat - 1)
  have hul := untilQ_lets hv huq5
  have hwa := who_all hv huq5 hwh5
  refine r_if_eq (tgt := 18) O ⟨by omega, by omega⟩ dX6_scraper_8 (by decide) (fun hc8 => ?_) (fun hc8 => ?_)
  · skip
    refine r_bipush O (by decide +kernel) dX6_scraper_18 ?_
    exact hE _ _ _ _ dX6_scraper_20 rfl ⟨by first | exact (hwa.2 (by omega)).symm | exact (hwa.1 (by omega)).symm, _, _, _, _, hmr5, rfl⟩
  · skip
    refine n_aload_n O dX6_scraper_11 rfl ?_
    refine m_get_la O hM fl_X6_95 dX6_scraper_12 ?_
    refine r_goto (tgt := 20) O dX6_scraper_15 (by decide) ?_
    exact hE _ _ _ _ dX6_scraper_20 rfl ⟨by first | exact (hwa.2 (by omega)).symm | exact (hwa.1 (by omega)).symm, _, _, _, _, hmr5, rfl⟩
set_option maxHeartbeats 4000000 in
theorem C_X6_spoil {K : zK} (hI : zInj K) (hM : kN K = 11) (tx : Int → Int) (ty : Int) (td dr bg ss pa : Int → Int) (kn : Int) (im : Int → Int) (kp : Int) (ns : Int → Int) (nd ap la : Int) (hh tt : Int → Int) (v : SV) (hv : okV v) (hr : mR td ss v)  : zCi K yX6_spoil cX6_spoil 4 (some .int) 4 [.ref (kad K 0)] (layM K tx ty td dr bg ss pa kn im kp ns nd ap la hh tt) (fun z u => spoilP v z ∧ ∃ (s2 h2 t2 : Int → Int) (w2 : Int), mR td s2 v ∧ u = (layM K tx ty td dr bg s2 pa kn im kp ns nd ap w2 h2 t2)) := by
  obtain ⟨hn7, ham, hhe, hsa, hro, hfa, hm⟩ := id hv
  obtain ⟨r1, r2, r3, r4, r5, r6, rm⟩ := id hr
  have hpw := pow_b (qn v).toNat (by omega)
  refine zCi_in hI (by decide +kernel) (Nat.le_of_ble_eq_true rfl) (fun X O hE => ?_)
  refine n_aload_n O dX6_spoil_0 rfl ?_
  refine m_get_ss O hM fl_X6_22 dX6_spoil_1 ?_
  refine r_bipush O (by decide +kernel) dX6_spoil_4 ?_
  refine m_ld_ss O hM (by omega) (by omega) dX6_spoil_6 ?_
  refine n_istore_n O dX6_spoil_7 (by decide) rfl ?_
  refine r_bipush O (by decide +kernel) dX6_spoil_8 ?_
  refine n_istore_n O dX6_spoil_10 (by decide) rfl ?_
  refine r_bipush O (by decide +kernel) dX6_spoil_11 ?_
  refine n_iload_n O dX6_spoil_13 rfl ?_
  refine r_isub O dX6_spoil_14 ?_
  refine n_istore_n O dX6_spoil_15 (by decide) rfl ?_
  have L16 : ∀ (zk : Nat) (m x fd : Int) (s1 t1 : Int → Int) (lb : Int), ((-1 ≤ m ∧ m ≤ 9 - qsa v) ∧ spoilJ v m fd ∧ mR td s1 (saV v x)) → (m + 1).toNat = zk → G K X 4 16 [(0, .ref (kad K 0)), (1, .int (iI (ss 30))), (2, .int (iI fd)), (3, .int (iI m))] [] (layM K tx ty td dr bg s1 pa kn im kp ns nd ap lb hh t1) := by
    intro zk
    induction zk using Nat.strongRecOn with
    | ind zk ih16 =>
      intro m x fd s1 t1 lb hinv hk
      obtain ⟨hm5, hj, hmd⟩ := hinv
      have e30 : ss 30 + m = qsa v + m := by omega
      refine n_iload_n O dX6_spoil_16 rfl ?_
      refine r_if_lt (tgt := 53) O ⟨by omega, by omega⟩ dX6_spoil_17 (by decide) (fun hc17 => ?_) (fun hc17 => ?_)
      · skip
        refine n_aload_n O dX6_spoil_53 rfl ?_
        refine m_get_ss O hM fl_X6_22 dX6_spoil_54 ?_
        refine r_bipush O (by decide +kernel) dX6_spoil_57 ?_
        refine n_iload_n O dX6_spoil_59 rfl ?_
        refine m_st_ss O hM (by omega) (by omega) dX6_spoil_60 ?_
        refine n_iload_n O dX6_spoil_61 rfl ?_
        exact hE _ _ _ _ dX6_spoil_62 rfl ⟨spoilJ_e hj (by omega), _, _, _, _, by have e := mR_sa hmd (by omega) (ss 30); rw [r4] at e ⊢; exact e, rfl⟩
      · skip
        refine n_aload_n O dX6_spoil_20 rfl ?_
        refine m_get_ss O hM fl_X6_22 dX6_spoil_21 ?_
        refine r_bipush O (by decide +kernel) dX6_spoil_24 ?_
        refine n_iload_n O dX6_spoil_26 rfl ?_
        refine n_iload_n O dX6_spoil_27 rfl ?_
        refine r_iadd O dX6_spoil_28 ?_
        refine m_st_ss O hM (by omega) (by omega) dX6_spoil_29 ?_
        refine n_aload_n O dX6_spoil_30 rfl ?_
        refine n_aload_n O dX6_spoil_31 rfl ?_
        refine r_callV0i O (C_X6_all hI hM _ _ _ _ _ _ _ _ _ _ _ _ _ _ _ _ (qn v).toNat (by omega) (by omega)) q_X6_104 (by rw [hM]; decide) (fs := _) rfl rfl rfl (by decide) (by decide) (Nat.le_of_ble_eq_true rfl) dX6_spoil_32 (fun zz32 zu32 hz32 => ?_)
        obtain ⟨rfl, rfl⟩ := hz32
        refine r_callV1i O (C_X6_isPassed hI hM _ _ _ _ _ _ _ _ _ _ _ _ _ _ _ _ (saV v (ss 30 + m)) (okV_saV hv (x := ss 30 + m) (by omega) (by omega)) (mR_sa hmd (by omega) _) (2 ^ (qn v).toNat - 1) (by omega)) q_X6_133 (by rw [hM]; decide) (fs := _) rfl rfl rfl (by decide) (by decide) (Nat.le_of_ble_eq_true rfl) dX6_spoil_35 (fun zz35 zu35 hz35 => ?_)
        obtain ⟨hzp35, y35, s35, t35, w35, huq35, hwh35, hmr35, rfl⟩ := hz35
        have h0135 := letsV_01 (saV v (ss 30 + m)) (2 ^ (qn v).toNat - 1)
        have hla35 : letsV (saV v (ss 30 + m)) (2 ^ (qn v).toNat - 1) = passI (saV v (ss 30 + m)) := lets_all (okV_saV hv (x := ss 30 + m) (by omega) (by omega))
        rw [hla35] at hzp35 h0135
        refine r_if_eq (tgt := 45) O ⟨by omega, by omega⟩ dX6_spoil_38 (by decide) (fun hc38 => ?_) (fun hc38 => ?_)
        · skip
          refine n_iload_n O dX6_spoil_45 rfl ?_
          refine n_istore_n O dX6_spoil_46 (by decide) rfl ?_
          refine n_iinc O dX6_spoil_47 (by decide) rfl rfl ?_
          refine r_goto (tgt := 16) O dX6_spoil_50 (by decide) ?_
          exact G_chk (ih16 _ (by omega) (m - 1) _ _ _ _ _ (by rw [e30] at hzp35 h0135; first | exact ⟨by omega, spoilJ_y hj (by omega), hmr35⟩ | exact ⟨by omega, spoilJ_n (by omega) (by omega), hmr35⟩) rfl) (zsc rfl (zsc rfl (zsc rfl (zsc rfl zsn))))
        · skip
          refine n_iload_n O dX6_spoil_41 rfl ?_
          refine r_goto (tgt := 46) O dX6_spoil_42 (by decide) ?_
          refine n_istore_n O dX6_spoil_46 (by decide) rfl ?_
          refine n_iinc O dX6_spoil_47 (by decide) rfl rfl ?_
          refine r_goto (tgt := 16) O dX6_spoil_50 (by decide) ?_
          exact G_chk (ih16 _ (by omega) (m - 1) _ _ _ _ _ (by rw [e30] at hzp35 h0135; first | exact ⟨by omega, spoilJ_y hj (by omega), hmr35⟩ | exact ⟨by omega, spoilJ_n (by omega) (by omega), hmr35⟩) rfl) (zsc rfl (zsc rfl (zsc rfl (zsc rfl zsn))))
  exact G_chk (L16 _ (9 - ss 30) (qsa v) (-4) ss tt la ⟨by omega, Or.inl ⟨rfl, fun j j0 j1 => by omega⟩, hr⟩ rfl) (zsc rfl (zsc rfl (zsc rfl (zsc rfl zsn))))
set_option maxHeartbeats 4000000 in
theorem C_X6_waits {K : zK} (hI : zInj K) (hM : kN K = 11) (tx : Int → Int) (ty : Int) (td dr bg ss pa : Int → Int) (kn : Int) (im : Int → Int) (kp : Int) (ns : Int → Int) (nd ap la : Int) (hh tt : Int → Int) (v : SV) (hv : okV v) (hr : mR td ss v)  : zCi K yX6_waits cX6_waits 4 (some .int) 4 [.ref (kad K 0)] (layM K tx ty td dr bg ss pa kn im kp ns nd ap la hh tt) (fun z u => waitsP v z ∧ ∃ (s2 h2 t2 : Int → Int) (w2 : Int), mR td s2 v ∧ u = (layM K tx ty td dr bg s2 pa kn im kp ns nd ap w2 h2 t2)) := by
  obtain ⟨hn7, ham, hhe, hsa, hro, hfa, hm⟩ := id hv
  obtain ⟨r1, r2, r3, r4, r5, r6, rm⟩ := id hr
  have hpw := pow_b (qn v).toNat (by omega)
  refine zCi_in hI (by decide +kernel) (Nat.le_of_ble_eq_true rfl) (fun X O hE => ?_)
  refine n_aload_n O dX6_waits_0 rfl ?_
  refine m_get_ss O hM fl_X6_22 dX6_waits_1 ?_
  refine r_bipush O (by decide +kernel) dX6_waits_4 ?_
  refine m_ld_ss O hM (by omega) (by omega) dX6_waits_6 ?_
  refine n_istore_n O dX6_waits_7 (by decide) rfl ?_
  refine r_bipush O (by decide +kernel) dX6_waits_8 ?_
  refine n_istore_n O dX6_waits_10 (by decide) rfl ?_
  refine r_bipush O (by decide +kernel) dX6_waits_11 ?_
  refine n_istore_n O dX6_waits_13 (by decide) rfl ?_
  have L14 : ∀ (zk : Nat) (m x fd : Int) (s1 t1 : Int → Int) (lb : Int), ((-1 ≤ m ∧ m ≤ 9) ∧ waitsJ v m fd ∧ mR td s1 (heV v x)) → (m + 1).toNat = zk → G K X 4 14 [(0, .ref (kad K 0)), (1, .int (iI (ss 29))), (2, .int (iI fd)), (3, .int (iI m))] [] (layM K tx ty td dr bg s1 pa kn im kp ns nd ap lb hh t1) := by
    intro zk
    induction zk using Nat.strongRecOn with
    | ind zk ih14 =>
      intro m x fd s1 t1 lb hinv hk
      obtain ⟨hm5, hj, hmd⟩ := hinv
      refine n_iload_n O dX6_waits_14 rfl ?_
      refine r_if_lt (tgt := 60) O ⟨by omega, by omega⟩ dX6_waits_15 (by decide) (fun hc15 => ?_) (fun hc15 => ?_)
      · skip
        refine n_aload_n O dX6_waits_60 rfl ?_
        refine m_get_ss O hM fl_X6_22 dX6_waits_61 ?_
        refine r_bipush O (by decide +kernel) dX6_waits_64 ?_
        refine n_iload_n O dX6_waits_66 rfl ?_
        refine m_st_ss O hM (by omega) (by omega) dX6_waits_67 ?_
        refine n_iload_n O dX6_waits_68 rfl ?_
        exact hE _ _ _ _ dX6_waits_69 rfl ⟨waitsJ_e hj (by omega), _, _, _, _, by have e := mR_he hmd (by omega) (ss 29); rw [r3] at e ⊢; exact e, rfl⟩
      · skip
        refine n_aload_n O dX6_waits_18 rfl ?_
        refine m_get_ss O hM fl_X6_22 dX6_waits_19 ?_
        refine r_bipush O (by decide +kernel) dX6_waits_22 ?_
        refine n_iload_n O dX6_waits_24 rfl ?_
        refine n_iload_n O dX6_waits_25 rfl ?_
        refine r_icmp_ge (tgt := 33) O ⟨by omega, by omega⟩ ⟨by omega, by omega⟩ dX6_waits_26 (by decide) (fun hc26 => ?_) (fun hc26 => ?_)
        · skip
          refine n_iload_n O dX6_waits_33 rfl ?_
          refine n_iload_n O dX6_waits_34 rfl ?_
          refine r_isub O dX6_waits_35 ?_
          refine m_st_ss O hM (by omega) (by omega) dX6_waits_36 ?_
          refine n_aload_n O dX6_waits_37 rfl ?_
          refine n_aload_n O dX6_waits_38 rfl ?_
          refine r_callV0i O (C_X6_all hI hM _ _ _ _ _ _ _ _ _ _ _ _ _ _ _ _ (qn v).toNat (by omega) (by omega)) q_X6_104 (by rw [hM]; decide) (fs := _) rfl rfl rfl (by decide) (by decide) (Nat.le_of_ble_eq_true rfl) dX6_waits_39 (fun zz39 zu39 hz39 => ?_)
          obtain ⟨rfl, rfl⟩ := hz39
          refine r_callV1i O (C_X6_isPassed hI hM _ _ _ _ _ _ _ _ _ _ _ _ _ _ _ _ (heV v (max (qhe v - m) 0)) (okV_heV hv (x := max (qhe v - m) 0) (by omega) (by omega)) (by first | ((have e9 : max (qhe v - m) 0 = 0 := by omega); rw [e9]; exact mR_he hmd (by omega) 0) | ((have e9 : max (qhe v - m) 0 = ss 29 - m := by omega); rw [e9]; exact mR_he hmd (by omega) _)) (2 ^ (qn v).toNat - 1) (by omega)) q_X6_133 (by rw [hM]; decide) (fs := _) rfl rfl rfl (by decide) (by decide) (Nat.le_of_ble_eq_true rfl) dX6_waits_42 (fun zz42 zu42 hz42 => ?_)
          obtain ⟨hzp42, y42, s42, t42, w42, huq42, hwh42, hmr42, rfl⟩ := hz42
          have h0142 := letsV_01 (heV v (max (qhe v - m) 0)) (2 ^ (qn v).toNat - 1)
          have hla42 : letsV (heV v (max (qhe v - m) 0)) (2 ^ (qn v).toNat - 1) = passI (heV v (max (qhe v - m) 0)) := lets_all (okV_heV hv (x := max (qhe v - m) 0) (by omega) (by omega))
          rw [hla42] at hzp42 h0142
          refine r_if_eq (tgt := 52) O ⟨by omega, by omega⟩ dX6_waits_45 (by decide) (fun hc45 => ?_) (fun hc45 => ?_)
          · skip
            refine n_iload_n O dX6_waits_52 rfl ?_
            refine n_istore_n O dX6_waits_53 (by decide) rfl ?_
            refine n_iinc O dX6_waits_54 (by decide) rfl rfl ?_
            refine r_goto (tgt := 14) O dX6_waits_57 (by decide) ?_
            exact G_chk (ih14 _ (by omega) (m - 1) _ _ _ _ _ (by first | exact ⟨by omega, waitsJ_n hj (by omega), hmr42⟩ | exact ⟨by omega, waitsJ_y (by omega) (by omega), hmr42⟩) rfl) (zsc rfl (zsc rfl (zsc rfl (zsc rfl zsn))))
          · skip
            refine n_iload_n O dX6_waits_48 rfl ?_
            refine r_goto (tgt := 53) O dX6_waits_49 (by decide) ?_
            refine n_istore_n O dX6_waits_53 (by decide) rfl ?_
            refine n_iinc O dX6_waits_54 (by decide) rfl rfl ?_
            refine r_goto (tgt := 14) O dX6_waits_57 (by decide) ?_
            exact G_chk (ih14 _ (by omega) (m - 1) _ _ _ _ _ (by first | exact ⟨by omega, waitsJ_n hj (by omega), hmr42⟩ | exact ⟨by omega, waitsJ_y (by omega) (by omega), hmr42⟩) rfl) (zsc rfl (zsc rfl (zsc rfl (zsc rfl zsn))))
        · skip
          refine r_iconst O dX6_waits_29 ?_
          refine r_goto (tgt := 36) O dX6_waits_30 (by decide) ?_
          refine m_st_ss O hM (by omega) (by omega) dX6_waits_36 ?_
          refine n_aload_n O dX6_waits_37 rfl ?_
          refine n_aload_n O dX6_waits_38 rfl ?_
          refine r_callV0i O (C_X6_all hI hM _ _ _ _ _ _ _ _ _ _ _ _ _ _ _ _ (qn v).toNat (by omega) (by omega)) q_X6_104 (by rw [hM]; decide) (fs := _) rfl rfl rfl (by decide) (by decide) (Nat.le_of_ble_eq_true rfl) dX6_waits_39 (fun zz39 zu39 hz39 => ?_)
          obtain ⟨rfl, rfl⟩ := hz39
          refine r_callV1i O (C_X6_isPassed hI hM _ _ _ _ _ _ _ _ _ _ _ _ _ _ _ _ (heV v (max (qhe v - m) 0)) (okV_heV hv (x := max (qhe v - m) 0) (by omega) (by omega)) (by first | ((have e9 : max (qhe v - m) 0 = 0 := by omega); rw [e9]; exact mR_he hmd (by omega) 0) | ((have e9 : max (qhe v - m) 0 = ss 29 - m := by omega); rw [e9]; exact mR_he hmd (by omega) _)) (2 ^ (qn v).toNat - 1) (by omega)) q_X6_133 (by rw [hM]; decide) (fs := _) rfl rfl rfl (by decide) (by decide) (Nat.le_of_ble_eq_true rfl) dX6_waits_42 (fun zz42 zu42 hz42 => ?_)
          obtain ⟨hzp42, y42, s42, t42, w42, huq42, hwh42, hmr42, rfl⟩ := hz42
          have h0142 := letsV_01 (heV v (max (qhe v - m) 0)) (2 ^ (qn v).toNat - 1)
          have hla42 : letsV (heV v (max (qhe v - m) 0)) (2 ^ (qn v).toNat - 1) = passI (heV v (max (qhe v - m) 0)) := lets_all (okV_heV hv (x := max (qhe v - m) 0) (by omega) (by omega))
          rw [hla42] at hzp42 h0142
          refine r_if_eq (tgt := 52) O ⟨by omega, by omega⟩ dX6_waits_45 (by decide) (fun hc45 => ?_) (fun hc45 => ?_)
          · skip
            refine n_iload_n O dX6_waits_52 rfl ?_
            refine n_istore_n O dX6_waits_53 (by decide) rfl ?_
            refine n_iinc O dX6_waits_54 (by decide) rfl rfl ?_
            refine r_goto (tgt := 14) O dX6_waits_57 (by decide) ?_
            exact G_chk (ih14 _ (by omega) (m - 1) _ _ _ _ _ (by first | exact ⟨by omega, waitsJ_n hj (by omega), hmr42⟩ | exact ⟨by omega, waitsJ_y (by omega) (by omega), hmr42⟩) rfl) (zsc rfl (zsc rfl (zsc rfl (zsc rfl zsn))))
          · skip
            refine n_iload_n O dX6_waits_48 rfl ?_
            refine r_goto (tgt := 53) O dX6_waits_49 (by decide) ?_
            refine n_istore_n O dX6_waits_53 (by decide) rfl ?_
            refine n_iinc O dX6_waits_54 (by decide) rfl rfl ?_
            refine r_goto (tgt := 14) O dX6_waits_57 (by decide) ?_
            exact G_chk (ih14 _ (by omega) (m - 1) _ _ _ _ _ (by first | exact ⟨by omega, waitsJ_n hj (by omega), hmr42⟩ | exact ⟨by omega, waitsJ_y (by omega) (by omega), hmr42⟩) rfl) (zsc rfl (zsc rfl (zsc rfl (zsc rfl zsn))))
  exact G_chk (L14 _ 9 (qhe v) (-4) ss tt la ⟨by omega, Or.inl ⟨rfl, fun j j0 j1 => by omega⟩, hr⟩ rfl) (zsc rfl (zsc rfl (zsc rfl (zsc rfl zsn))))
set_option maxHeartbeats 4000000 in
theorem C_X6_most {K : zK} (hI : zInj K) (hM : kN K = 11) (tx : Int → Int) (ty : Int) (td dr bg ss pa : Int → Int) (kn : Int) (im : Int → Int) (kp : Int) (ns : Int → Int) (nd ap la : Int) (hh tt : Int → Int) (v : SV) (hv : okV v) (hr : mR td ss v)  : zCi K yX6_most cX6_most 4 (some .int) 4 [.ref (kad K 0)] (layM K tx ty td dr bg ss pa kn im kp ns nd ap la hh tt) (fun z u => z = min 99 (reachA v (qn v).toNat) ∧ ∃ (s2 h2 t2 : Int → Int) (w2 : Int), mR td s2 v ∧ u = (layM K tx ty td dr bg s2 pa kn im kp ns nd ap w2 h2 t2)) := by
  obtain ⟨hn7, ham, hhe, hsa, hro, hfa, hm⟩ := id hv
  obtain ⟨r1, r2, r3, r4, r5, r6, rm⟩ := id hr
  have hpw := pow_b (qn v).toNat (by omega)
  have hra := reachA_b hv (qn v).toNat (by omega)
  refine zCi_in hI (by decide +kernel) (Nat.le_of_ble_eq_true rfl) (fun X O hE => ?_)
  refine n_aload_n O dX6_most_0 rfl ?_
  refine m_get_ss O hM fl_X6_22 dX6_most_1 ?_
  refine r_bipush O (by decide +kernel) dX6_most_4 ?_
  refine m_ld_ss O hM (by omega) (by omega) dX6_most_6 ?_
  refine n_istore_n O dX6_most_7 (by decide) rfl ?_
  refine r_iconst O dX6_most_8 ?_
  refine n_istore_n O dX6_most_9 (by decide) rfl ?_
  refine r_iconst O dX6_most_10 ?_
  refine n_istore_n O dX6_most_11 (by decide) rfl ?_
  have L12 : ∀ (zk : Nat) (a x fd : Int) (s1 t1 : Int → Int) (lb : Int), ((1 ≤ a ∧ a ≤ 100) ∧ fd = min (a - 1) (reachA v (qn v).toNat) ∧ mR td s1 (amV v x)) → (100 - a).toNat = zk → G K X 4 12 [(0, .ref (kad K 0)), (1, .int (iI (ss 28))), (2, .int (iI fd)), (3, .int (iI a))] [] (layM K tx ty td dr bg s1 pa kn im kp ns nd ap lb hh t1) := by
    intro zk
    induction zk using Nat.strongRecOn with
    | ind zk ih12 =>
      intro a x fd s1 t1 lb hinv hk
      obtain ⟨ha5, hj, hmd⟩ := hinv
      refine n_iload_n O dX6_most_12 rfl ?_
      refine r_bipush O (by decide +kernel) dX6_most_13 ?_
      refine r_icmp_gt (tgt := 49) O ⟨by omega, by omega⟩ ⟨by omega, by omega⟩ dX6_most_15 (by decide) (fun hc15 => ?_) (fun hc15 => ?_)
      · skip
        refine n_aload_n O dX6_most_49 rfl ?_
        refine m_get_ss O hM fl_X6_22 dX6_most_50 ?_
        refine r_bipush O (by decide +kernel) dX6_most_53 ?_
        refine n_iload_n O dX6_most_55 rfl ?_
        refine m_st_ss O hM (by omega) (by omega) dX6_most_56 ?_
        refine n_iload_n O dX6_most_57 rfl ?_
        exact hE _ _ _ _ dX6_most_58 rfl ⟨by omega, _, _, _, _, by have e := mR_am hmd (by omega) (ss 28); rw [r2] at e ⊢; exact e, rfl⟩
      · skip
        refine n_aload_n O dX6_most_18 rfl ?_
        refine m_get_ss O hM fl_X6_22 dX6_most_19 ?_
        refine r_bipush O (by decide +kernel) dX6_most_22 ?_
        refine n_iload_n O dX6_most_24 rfl ?_
        refine m_st_ss O hM (by omega) (by omega) dX6_most_25 ?_
        refine n_aload_n O dX6_most_26 rfl ?_
        refine n_aload_n O dX6_most_27 rfl ?_
        refine r_callV0i O (C_X6_all hI hM _ _ _ _ _ _ _ _ _ _ _ _ _ _ _ _ (qn v).toNat (by omega) (by omega)) q_X6_104 (by rw [hM]; decide) (fs := _) rfl rfl rfl (by decide) (by decide) (Nat.le_of_ble_eq_true rfl) dX6_most_28 (fun zz28 zu28 hz28 => ?_)
        obtain ⟨rfl, rfl⟩ := hz28
        refine r_callV1i O (C_X6_isPassed hI hM _ _ _ _ _ _ _ _ _ _ _ _ _ _ _ _ (amV v a) (okV_amV hv (x := a) (by omega) (by omega)) (mR_am hmd (by omega) _) (2 ^ (qn v).toNat - 1) (by omega)) q_X6_133 (by rw [hM]; decide) (fs := _) rfl rfl rfl (by decide) (by decide) (Nat.le_of_ble_eq_true rfl) dX6_most_31 (fun zz31 zu31 hz31 => ?_)
        obtain ⟨hzp31, y31, s31, t31, w31, huq31, hwh31, hmr31, rfl⟩ := hz31
        have h0131 := letsV_01 (amV v a) (2 ^ (qn v).toNat - 1)
        have hla31 : letsV (amV v a) (2 ^ (qn v).toNat - 1) = passI (amV v a) := lets_all (okV_amV hv (x := a) (by omega) (by omega))
        rw [hla31] at hzp31 h0131
        refine r_if_eq (tgt := 41) O ⟨by omega, by omega⟩ dX6_most_34 (by decide) (fun hc34 => ?_) (fun hc34 => ?_)
        · skip
          refine n_iload_n O dX6_most_41 rfl ?_
          refine n_istore_n O dX6_most_42 (by decide) rfl ?_
          refine n_iinc O dX6_most_43 (by decide) rfl rfl ?_
          refine r_goto (tgt := 12) O dX6_most_46 (by decide) ?_
          exact G_chk (ih12 _ (by omega) (a + 1) _ _ _ _ _ (by have hpa := passI_am v a; exact ⟨by omega, by omega, hmr31⟩) rfl) (zsc rfl (zsc rfl (zsc rfl (zsc rfl zsn))))
        · skip
          refine n_iload_n O dX6_most_37 rfl ?_
          refine r_goto (tgt := 42) O dX6_most_38 (by decide) ?_
          refine n_istore_n O dX6_most_42 (by decide) rfl ?_
          refine n_iinc O dX6_most_43 (by decide) rfl rfl ?_
          refine r_goto (tgt := 12) O dX6_most_46 (by decide) ?_
          exact G_chk (ih12 _ (by omega) (a + 1) _ _ _ _ _ (by have hpa := passI_am v a; exact ⟨by omega, by omega, hmr31⟩) rfl) (zsc rfl (zsc rfl (zsc rfl (zsc rfl zsn))))
  exact G_chk (L12 _ 1 (qam v) 0 ss tt la ⟨by omega, by omega, hr⟩ rfl) (zsc rfl (zsc rfl (zsc rfl (zsc rfl zsn))))
set_option maxHeartbeats 4000000 in
theorem C_X6_fasts {K : zK} (hI : zInj K) (hM : kN K = 11) (tx : Int → Int) (ty : Int) (td dr bg ss pa : Int → Int) (kn : Int) (im : Int → Int) (kp : Int) (ns : Int → Int) (nd ap la : Int) (hh tt : Int → Int) (v : SV) (hv : okV v) (hr : mR td ss v)  : zCi K yX6_fasts cX6_fasts 3 (some .int) 4 [.ref (kad K 0)] (layM K tx ty td dr bg ss pa kn im kp ns nd ap la hh tt) (fun z u => fastsP v z ∧ ∃ (s2 h2 t2 : Int → Int) (w2 : Int), mR td s2 v ∧ u = (layM K tx ty td dr bg s2 pa kn im kp ns nd ap w2 h2 t2)) := by
  obtain ⟨hn7, ham, hhe, hsa, hro, hfa, hm⟩ := id hv
  obtain ⟨r1, r2, r3, r4, r5, r6, rm⟩ := id hr
  have hpw := pow_b (qn v).toNat (by omega)
  refine zCi_in hI (by decide +kernel) (Nat.le_of_ble_eq_true rfl) (fun X O hE => ?_)
  refine n_aload_n O dX6_fasts_0 rfl ?_
  refine r_callV0v O (C_X6_holds hI hM _ _ _ _ _ _ _ _ _ _ _ _ _ _ _ _ ) q_X6_127 (by rw [hM]; decide) (fs := _) rfl rfl rfl (by decide) (by decide) (Nat.le_of_ble_eq_true rfl) dX6_fasts_1 (fun zu1 hz1 => ?_)
  obtain ⟨h2, hh2, rfl⟩ := hz1
  refine r_bipush O (by decide +kernel) dX6_fasts_4 ?_
  refine n_istore_n O dX6_fasts_6 (by decide) rfl ?_
  refine r_iconst O dX6_fasts_7 ?_
  refine n_istore_n O dX6_fasts_8 (by decide) rfl ?_
  have L9 : ∀ (zk : Nat) (k : Nat) (fd : Int) (s1 t1 : Int → Int) (lb : Int), (k ≤ 11 ∧ fastsJ v k fd ∧ mR td s1 (fastK v k) ∧ (-4 ≤ fd ∧ fd ≤ 10)) → 11 - k = zk → G K X 3 9 [(0, .ref (kad K 0)), (1, .int (iI fd)), (2, .int (iI (k : Int)))] [] (layM K tx ty td dr bg s1 pa kn im kp ns nd ap lb h2 t1) := by
    intro zk
    induction zk using Nat.strongRecOn with
    | ind zk ih9 =>
      intro k fd s1 t1 lb hinv hk
      obtain ⟨hk, hj, hmd, hfb⟩ := hinv
      refine n_iload_n O dX6_fasts_9 rfl ?_
      refine r_bipush O (by decide +kernel) dX6_fasts_10 ?_
      refine r_icmp_ge (tgt := 49) O ⟨by omega, by omega⟩ ⟨by omega, by omega⟩ dX6_fasts_12 (by decide) (fun hc12 => ?_) (fun hc12 => ?_)
      · skip
        refine n_aload_n O dX6_fasts_49 rfl ?_
        refine r_callV0v O (C_X6_lets hI hM _ _ _ _ _ _ _ _ _ _ _ _ _ _ _ _ ) q_X6_130 (by rw [hM]; decide) (fs := _) rfl rfl rfl (by decide) (by decide) (Nat.le_of_ble_eq_true rfl) dX6_fasts_50 (fun zu50 hz50 => ?_)
        obtain ⟨s5, hs5, rfl⟩ := hz50
        have hr5 := mR_31 hr (by omega) (fun y h0 h1 => (hs5 y h0 h1).trans (hh2 y h0 h1))
        refine n_iload_n O dX6_fasts_53 rfl ?_
        exact hE _ _ _ _ dX6_fasts_54 rfl ⟨fastsJ_e hj (by omega), _, _, _, _, hr5, rfl⟩
      · skip
        refine n_iload_n O dX6_fasts_15 rfl ?_
        refine r_bipush O (by decide +kernel) dX6_fasts_16 ?_
        refine r_icmp_ne (tgt := 49) O ⟨by omega, by omega⟩ ⟨by omega, by omega⟩ dX6_fasts_18 (by decide) (fun hc18 => ?_) (fun hc18 => ?_)
        · skip
          refine n_aload_n O dX6_fasts_49 rfl ?_
          refine r_callV0v O (C_X6_lets hI hM _ _ _ _ _ _ _ _ _ _ _ _ _ _ _ _ ) q_X6_130 (by rw [hM]; decide) (fs := _) rfl rfl rfl (by decide) (by decide) (Nat.le_of_ble_eq_true rfl) dX6_fasts_50 (fun zu50 hz50 => ?_)
          obtain ⟨s5, hs5, rfl⟩ := hz50
          have hr5 := mR_31 hr (by omega) (fun y h0 h1 => (hs5 y h0 h1).trans (hh2 y h0 h1))
          refine n_iload_n O dX6_fasts_53 rfl ?_
          exact hE _ _ _ _ dX6_fasts_54 rfl ⟨fastsJ_e hj (by omega), _, _, _, _, hr5, rfl⟩
        · skip
          refine n_aload_n O dX6_fasts_21 rfl ?_
          refine n_aload_n O dX6_fasts_22 rfl ?_
          refine r_callV0i O (C_X6_all hI hM _ _ _ _ _ _ _ _ _ _ _ _ _ _ _ _ (qn v).toNat (by omega) (by omega)) q_X6_104 (by rw [hM]; decide) (fs := _) rfl rfl rfl (by decide) (by decide) (Nat.le_of_ble_eq_true rfl) dX6_fasts_23 (fun zz23 zu23 hz23 => ?_)
          obtain ⟨rfl, rfl⟩ := hz23
          refine r_callV1i O (C_X6_isPassed hI hM _ _ _ _ _ _ _ _ _ _ _ _ _ _ _ _ (fastK v k) (okV_fastK hv k) hmd (2 ^ (qn v).toNat - 1) (by omega)) q_X6_133 (by rw [hM]; decide) (fs := _) rfl rfl rfl (by decide) (by decide) (Nat.le_of_ble_eq_true rfl) dX6_fasts_26 (fun zz26 zu26 hz26 => ?_)
          obtain ⟨hzp26, y26, s26, t26, w26, huq26, hwh26, hmr26, rfl⟩ := hz26
          have h0126 := letsV_01 (fastK v k) (2 ^ (qn v).toNat - 1)
          have hla26 := lets_all (okV_fastK hv k)
          rw [fastK_n] at hla26
          rw [hla26] at hzp26 h0126
          refine r_if_eq (tgt := 36) O ⟨by omega, by omega⟩ dX6_fasts_29 (by decide) (fun hc29 => ?_) (fun hc29 => ?_)
          · skip
            refine r_bipush O (by decide +kernel) dX6_fasts_36 ?_
            refine n_istore_n O dX6_fasts_38 (by decide) rfl ?_
            refine n_aload_n O dX6_fasts_39 rfl ?_
            refine r_callV0v O (C_X6_starves hI hM _ _ _ _ _ _ _ _ _ _ _ _ _ _ _ _ (fastK v k) (okV_fastK hv k) hmr26) q_X6_118 (by rw [hM]; decide) (fs := _) rfl rfl rfl (by decide) (by decide) (Nat.le_of_ble_eq_true rfl) dX6_fasts_40 (fun zu40 hz40 => ?_)
            obtain ⟨s3, hq3, rfl⟩ := hz40
            refine n_iinc O dX6_fasts_43 (by decide) rfl rfl ?_
            refine r_goto (tgt := 9) O dX6_fasts_46 (by decide) ?_
            have hf4 : fd = -4 := by omega
            subst hf4
            exact G_chk (ih9 _ (by omega) (k + 1) _ _ _ _ (by first | exact ⟨by omega, fastsJ_y hj (by omega) (by omega), hq3, by omega⟩ | exact ⟨by omega, fastsJ_n hj (by omega), hq3, by omega⟩) rfl) (zsc rfl (zsc rfl (zsc rfl zsn)))
          · skip
            refine n_iload_n O dX6_fasts_32 rfl ?_
            refine r_goto (tgt := 38) O dX6_fasts_33 (by decide) ?_
            refine n_istore_n O dX6_fasts_38 (by decide) rfl ?_
            refine n_aload_n O dX6_fasts_39 rfl ?_
            refine r_callV0v O (C_X6_starves hI hM _ _ _ _ _ _ _ _ _ _ _ _ _ _ _ _ (fastK v k) (okV_fastK hv k) hmr26) q_X6_118 (by rw [hM]; decide) (fs := _) rfl rfl rfl (by decide) (by decide) (Nat.le_of_ble_eq_true rfl) dX6_fasts_40 (fun zu40 hz40 => ?_)
            obtain ⟨s3, hq3, rfl⟩ := hz40
            refine n_iinc O dX6_fasts_43 (by decide) rfl rfl ?_
            refine r_goto (tgt := 9) O dX6_fasts_46 (by decide) ?_
            have hf4 : fd = -4 := by omega
            subst hf4
            exact G_chk (ih9 _ (by omega) (k + 1) _ _ _ _ (by first | exact ⟨by omega, fastsJ_y hj (by omega) (by omega), hq3, by omega⟩ | exact ⟨by omega, fastsJ_n hj (by omega), hq3, by omega⟩) rfl) (zsc rfl (zsc rfl (zsc rfl zsn)))
  exact G_chk (L9 _ 0 (-4) ss tt la ⟨by omega, Or.inl ⟨rfl, fun m hm => by omega⟩, hr, by omega⟩ rfl) (zsc rfl (zsc rfl (zsc rfl zsn)))
set_option maxHeartbeats 4000000 in
theorem C_X6_cabal {K : zK} (hI : zInj K) (hM : kN K = 11) (tx : Int → Int) (ty : Int) (td dr bg ss pa : Int → Int) (kn : Int) (im : Int → Int) (kp : Int) (ns : Int → Int) (nd ap la : Int) (hh tt : Int → Int) (v : SV) (hv : okV v) (hr : mR td ss v) (w : Int) (bw : zB w)  : zCi K yX6_cabal cX6_cabal 4 (some .int) 4 [.ref (kad K 0), .int (iI w)] (layM K tx ty td dr bg ss pa kn im kp ns nd ap la hh tt) (fun z u => ((w < 0 ∨ 1 < w) ∧ z = -1 ∧ u = (layM K tx ty td dr bg ss pa kn im kp ns nd ap la hh tt)) ∨ ((0 ≤ w ∧ w ≤ 1) ∧ z = cabI v w ∧ ∃ (s2 h2 t2 : Int → Int) (w2 : Int), mR td s2 v ∧ u = (layM K tx ty td dr bg s2 pa kn im kp ns nd ap w2 h2 t2))) := by
  obtain ⟨hn7, ham, hhe, hsa, hro, hfa, hm⟩ := id hv
  obtain ⟨r1, r2, r3, r4, r5, r6, rm⟩ := id hr
  have hpw := pow_b (qn v).toNat (by omega)
  obtain ⟨bw1, bw2⟩ := id bw
  refine zCi_in hI (by decide +kernel) (Nat.le_of_ble_eq_true rfl) (fun X O hE => ?_)
  refine n_iload_n O dX6_cabal_0 rfl ?_
  refine r_iconst O dX6_cabal_1 ?_
  refine r_iconst O dX6_cabal_2 ?_
  refine r_callS3i O (C_X6_in hI _ _ _ _ ⟨by omega, by omega⟩ ⟨by omega, by omega⟩ ⟨by omega, by omega⟩) q_X6_50 (by decide) (by decide) (Nat.le_of_ble_eq_true rfl) dX6_cabal_3 (fun zz3 zu3 hz3 => ?_)
  obtain ⟨hzi3, rfl⟩ := hz3
  have hic3 := inI_c hzi3
  refine r_if_ne (tgt := 11) O ⟨by omega, by omega⟩ dX6_cabal_6 (by decide) (fun hc6 => ?_) (fun hc6 => ?_)
  · skip
    refine r_bipush O (by decide +kernel) dX6_cabal_11 ?_
    refine n_istore_n O dX6_cabal_13 (by decide) rfl ?_
    refine r_iconst O dX6_cabal_14 ?_
    refine n_istore_n O dX6_cabal_15 (by decide) rfl ?_
    have L16 : ∀ (zk : Nat) (k : Nat) (fd : Int) (s1 t1 : Int → Int) (lb : Int), (k ≤ 2 ^ (qn v).toNat ∧ fd = fewN (letsV v) k ∧ mR td s1 v) → 128 - k = zk → G K X 4 16 [(0, .ref (kad K 0)), (1, .int (iI w)), (2, .int (iI fd)), (3, .int (iI (k : Int)))] [] (layM K tx ty td dr bg s1 pa kn im kp ns nd ap lb hh t1) := by
      intro zk
      induction zk using Nat.strongRecOn with
      | ind zk ih16 =>
        intro k fd s1 t1 lb hinv hk
        obtain ⟨hk, rfl, hmd⟩ := hinv
        have hfb := fewN_b (letsV v) k
        have hp1 := popN_b k
        have hp2 := popN_b (fewN (letsV v) k).toNat
        refine n_iload_n O dX6_cabal_16 rfl ?_
        refine n_aload_n O dX6_cabal_17 rfl ?_
        refine r_callV0i O (C_X6_all hI hM _ _ _ _ _ _ _ _ _ _ _ _ _ _ _ _ (qn v).toNat (by omega) (by omega)) q_X6_104 (by rw [hM]; decide) (fs := _) rfl rfl rfl (by decide) (by decide) (Nat.le_of_ble_eq_true rfl) dX6_cabal_18 (fun zz18 zu18 hz18 => ?_)
        obtain ⟨rfl, rfl⟩ := hz18
        refine r_icmp_gt (tgt := 57) O ⟨by omega, by omega⟩ ⟨by omega, by omega⟩ dX6_cabal_21 (by decide) (fun hc21 => ?_) (fun hc21 => ?_)
        · skip
          have ek : k = 2 ^ (qn v).toNat := by omega
          refine n_iload_n O dX6_cabal_57 rfl ?_
          refine r_iconst O dX6_cabal_58 ?_
          refine r_icmp_eq (tgt := 68) O ⟨by omega, by omega⟩ ⟨by omega, by omega⟩ dX6_cabal_59 (by decide) (fun hc59 => ?_) (fun hc59 => ?_)
          · skip
            refine n_iload_n O dX6_cabal_68 rfl ?_
            refine r_goto (tgt := 76) O dX6_cabal_69 (by decide) ?_
            exact hE _ _ _ _ dX6_cabal_76 rfl (Or.inr ⟨by omega, by unfold cabI; rw [← ek]; first | (rw [if_pos (by omega)]; omega) | (rw [if_neg (by omega), if_neg (by omega)]; done) | (rw [if_neg (by omega), if_pos (by omega)]; done) | (by_cases e4 : fewN (letsV v) k = -4; (rw [if_pos e4]; exact e4); (rw [if_neg e4, if_neg (by omega)])), _, _, _, _, hmd, rfl⟩)
          · skip
            refine n_iload_n O dX6_cabal_62 rfl ?_
            refine r_bipush O (by decide +kernel) dX6_cabal_63 ?_
            refine r_icmp_ne (tgt := 72) O ⟨by omega, by omega⟩ ⟨by omega, by omega⟩ dX6_cabal_65 (by decide) (fun hc65 => ?_) (fun hc65 => ?_)
            · skip
              refine n_iload_n O dX6_cabal_72 rfl ?_
              refine r_callS1i O ((show zCi K yX6_ones cX6_ones 3 (some .int) 0 [.int (iI (fewN (letsV v) k))] (layM K tx ty td dr bg s1 pa kn im kp ns nd ap lb hh t1) _ from by have h := C_X6_ones hI (layM K tx ty td dr bg s1 pa kn im kp ns nd ap lb hh t1) (fewN (letsV v) k).toNat (by omega); rw [Int.toNat_of_nonneg (by omega)] at h; exact h)) q_X6_136 (by decide) (by decide) (Nat.le_of_ble_eq_true rfl) dX6_cabal_73 (fun zz73 zu73 hz73 => ?_)
              obtain ⟨rfl, rfl⟩ := hz73
              exact hE _ _ _ _ dX6_cabal_76 rfl (Or.inr ⟨by omega, by unfold cabI; rw [← ek]; first | (rw [if_pos (by omega)]; omega) | (rw [if_neg (by omega), if_neg (by omega)]; done) | (rw [if_neg (by omega), if_pos (by omega)]; done) | (by_cases e4 : fewN (letsV v) k = -4; (rw [if_pos e4]; exact e4); (rw [if_neg e4, if_neg (by omega)])), _, _, _, _, hmd, rfl⟩)
            · skip
              refine n_iload_n O dX6_cabal_68 rfl ?_
              refine r_goto (tgt := 76) O dX6_cabal_69 (by decide) ?_
              exact hE _ _ _ _ dX6_cabal_76 rfl (Or.inr ⟨by omega, by unfold cabI; rw [← ek]; first | (rw [if_pos (by omega)]; omega) | (rw [if_neg (by omega), if_neg (by omega)]; done) | (rw [if_neg (by omega), if_pos (by omega)]; done) | (by_cases e4 : fewN (letsV v) k = -4; (rw [if_pos e4]; exact e4); (rw [if_neg e4, if_neg (by omega)])), _, _, _, _, hmd, rfl⟩)
        · skip
          refine n_iload_n O dX6_cabal_24 rfl ?_
          refine r_bipush O (by decide +kernel) dX6_cabal_25 ?_
          refine r_icmp_eq (tgt := 41) O ⟨by omega, by omega⟩ ⟨by omega, by omega⟩ dX6_cabal_27 (by decide) (fun hc27 => ?_) (fun hc27 => ?_)
          · skip
            refine n_aload_n O dX6_cabal_41 rfl ?_
            refine n_iload_n O dX6_cabal_42 rfl ?_
            refine r_callV1i O (C_X6_isPassed hI hM _ _ _ _ _ _ _ _ _ _ _ _ _ _ _ _ v hv hmd k (by omega)) q_X6_133 (by rw [hM]; decide) (fs := _) rfl rfl rfl (by decide) (by decide) (Nat.le_of_ble_eq_true rfl) dX6_cabal_43 (fun zz43 zu43 hz43 => ?_)
            obtain ⟨hzp43, y43, s43, t43, w43, huq43, hwh43, hmr43, rfl⟩ := hz43
            have h0143 := letsV_01 v k
            refine r_if_eq (tgt := 51) O ⟨by omega, by omega⟩ dX6_cabal_46 (by decide) (fun hc46 => ?_) (fun hc46 => ?_)
            · skip
              refine n_iinc O dX6_cabal_51 (by decide) rfl rfl ?_
              refine r_goto (tgt := 16) O dX6_cabal_54 (by decide) ?_
              exact G_chk (ih16 _ (by omega) (k + 1) _ _ _ _ ⟨by omega, fewN_st _ _ (by first | exact Or.inr ⟨rfl, by omega⟩ | exact Or.inl ⟨rfl, by omega, by omega⟩), by first | exact hmr43 | exact hmd⟩ rfl) (zsc rfl (zsc rfl (zsc rfl (zsc rfl zsn))))
            · skip
              refine n_iload_n O dX6_cabal_49 rfl ?_
              refine n_istore_n O dX6_cabal_50 (by decide) rfl ?_
              refine n_iinc O dX6_cabal_51 (by decide) rfl rfl ?_
              refine r_goto (tgt := 16) O dX6_cabal_54 (by decide) ?_
              exact G_chk (ih16 _ (by omega) (k + 1) _ _ _ _ ⟨by omega, fewN_st _ _ (by first | exact Or.inr ⟨rfl, by omega⟩ | exact Or.inl ⟨rfl, by omega, by omega⟩), by first | exact hmr43 | exact hmd⟩ rfl) (zsc rfl (zsc rfl (zsc rfl (zsc rfl zsn))))
          · skip
            refine n_iload_n O dX6_cabal_30 rfl ?_
            refine r_callS1i O (C_X6_ones hI _ k (by omega)) q_X6_136 (by decide) (by decide) (Nat.le_of_ble_eq_true rfl) dX6_cabal_31 (fun zz31 zu31 hz31 => ?_)
            obtain ⟨rfl, rfl⟩ := hz31
            refine n_iload_n O dX6_cabal_34 rfl ?_
            refine r_callS1i O ((show zCi K yX6_ones cX6_ones 3 (some .int) 0 [.int (iI (fewN (letsV v) k))] (layM K tx ty td dr bg s1 pa kn im kp ns nd ap lb hh t1) _ from by have h := C_X6_ones hI (layM K tx ty td dr bg s1 pa kn im kp ns nd ap lb hh t1) (fewN (letsV v) k).toNat (by omega); rw [Int.toNat_of_nonneg (by omega)] at h; exact h)) q_X6_136 (by decide) (by decide) (Nat.le_of_ble_eq_true rfl) dX6_cabal_35 (fun zz35 zu35 hz35 => ?_)
            obtain ⟨rfl, rfl⟩ := hz35
            refine r_icmp_ge (tgt := 51) O ⟨by omega, by omega⟩ ⟨by omega, by omega⟩ dX6_cabal_38 (by decide) (fun hc38 => ?_) (fun hc38 => ?_)
            · skip
              refine n_iinc O dX6_cabal_51 (by decide) rfl rfl ?_
              refine r_goto (tgt := 16) O dX6_cabal_54 (by decide) ?_
              exact G_chk (ih16 _ (by omega) (k + 1) _ _ _ _ ⟨by omega, fewN_st _ _ (by first | exact Or.inr ⟨rfl, by omega⟩ | exact Or.inl ⟨rfl, by omega, by omega⟩), by first | exact hmr43 | exact hmd⟩ rfl) (zsc rfl (zsc rfl (zsc rfl (zsc rfl zsn))))
            · skip
              refine n_aload_n O dX6_cabal_41 rfl ?_
              refine n_iload_n O dX6_cabal_42 rfl ?_
              refine r_callV1i O (C_X6_isPassed hI hM _ _ _ _ _ _ _ _ _ _ _ _ _ _ _ _ v hv hmd k (by omega)) q_X6_133 (by rw [hM]; decide) (fs := _) rfl rfl rfl (by decide) (by decide) (Nat.le_of_ble_eq_true rfl) dX6_cabal_43 (fun zz43 zu43 hz43 => ?_)
              obtain ⟨hzp43, y43, s43, t43, w43, huq43, hwh43, hmr43, rfl⟩ := hz43
              have h0143 := letsV_01 v k
              refine r_if_eq (tgt := 51) O ⟨by omega, by omega⟩ dX6_cabal_46 (by decide) (fun hc46 => ?_) (fun hc46 => ?_)
              · skip
                refine n_iinc O dX6_cabal_51 (by decide) rfl rfl ?_
                refine r_goto (tgt := 16) O dX6_cabal_54 (by decide) ?_
                exact G_chk (ih16 _ (by omega) (k + 1) _ _ _ _ ⟨by omega, fewN_st _ _ (by first | exact Or.inr ⟨rfl, by omega⟩ | exact Or.inl ⟨rfl, by omega, by omega⟩), by first | exact hmr43 | exact hmd⟩ rfl) (zsc rfl (zsc rfl (zsc rfl (zsc rfl zsn))))
              · skip
                refine n_iload_n O dX6_cabal_49 rfl ?_
                refine n_istore_n O dX6_cabal_50 (by decide) rfl ?_
                refine n_iinc O dX6_cabal_51 (by decide) rfl rfl ?_
                refine r_goto (tgt := 16) O dX6_cabal_54 (by decide) ?_
                exact G_chk (ih16 _ (by omega) (k + 1) _ _ _ _ ⟨by omega, fewN_st _ _ (by first | exact Or.inr ⟨rfl, by omega⟩ | exact Or.inl ⟨rfl, by omega, by omega⟩), by first | exact hmr43 | exact hmd⟩ rfl) (zsc rfl (zsc rfl (zsc rfl (zsc rfl zsn))))
    exact G_chk (L16 _ 0 (-4) ss tt la ⟨by omega, rfl, hr⟩ rfl) (zsc rfl (zsc rfl (zsc rfl (zsc rfl zsn))))
  · skip
    refine r_iconst O dX6_cabal_9 ?_
    exact hE _ _ _ _ dX6_cabal_10 rfl (Or.inl ⟨by omega, rfl, rfl⟩)
set_option maxHeartbeats 4000000 in
theorem C_X6_trades {K : zK} (hI : zInj K) (hM : kN K = 11) (tx : Int → Int) (ty : Int) (td dr bg ss pa : Int → Int) (kn : Int) (im : Int → Int) (kp : Int) (ns : Int → Int) (nd ap la : Int) (hh tt : Int → Int) (v : SV) (hv : okV v) (hr : mR td ss v)  : zCi K yX6_trades cX6_trades 4 (some .int) 4 [.ref (kad K 0)] (layM K tx ty td dr bg ss pa kn im kp ns nd ap la hh tt) (fun z u => tradeP v z ∧ ∃ (s2 h2 t2 : Int → Int) (w2 : Int), mR td s2 v ∧ u = (layM K tx ty td dr bg s2 pa kn im kp ns nd ap w2 h2 t2)) := by
  obtain ⟨hn7, ham, hhe, hsa, hro, hfa, hm⟩ := id hv
  obtain ⟨r1, r2, r3, r4, r5, r6, rm⟩ := id hr
  have hpw := pow_b (qn v).toNat (by omega)
  refine zCi_in hI (by decide +kernel) (Nat.le_of_ble_eq_true rfl) (fun X O hE => ?_)
  refine r_bipush O (by decide +kernel) dX6_trades_0 ?_
  refine n_istore_n O dX6_trades_2 (by decide) rfl ?_
  refine r_iconst O dX6_trades_3 ?_
  refine n_istore_n O dX6_trades_4 (by decide) rfl ?_
  have L5 : ∀ (zk : Nat) (i fd : Int) (s1 t1 : Int → Int) (lb : Int), ((0 ≤ i ∧ i ≤ qn v) ∧ tradeJ v i i fd ∧ mR td s1 v) → (7 - i).toNat = zk → G K X 4 5 [(0, .ref (kad K 0)), (1, .int (iI fd)), (2, .int (iI i))] [] (layM K tx ty td dr bg s1 pa kn im kp ns nd ap lb hh t1) := by
    intro zk
    induction zk using Nat.strongRecOn with
    | ind zk ih5 =>
      intro i fd s1 t1 lb hinv hk
      obtain ⟨hi, hj, hmd⟩ := hinv
      refine n_iload_n O dX6_trades_5 rfl ?_
      refine n_aload_n O dX6_trades_6 rfl ?_
      refine m_get_td O hM fl_X6_13 dX6_trades_7 ?_
      refine r_iconst O dX6_trades_10 ?_
      refine m_ld_td O hM (by omega) (by omega) dX6_trades_11 ?_
      refine r_icmp_ge (tgt := 93) O ⟨by omega, by omega⟩ ⟨by omega, by omega⟩ dX6_trades_12 (by decide) (fun hc12 => ?_) (fun hc12 => ?_)
      · skip
        refine n_iload_n O dX6_trades_93 rfl ?_
        exact hE _ _ _ _ dX6_trades_94 rfl ⟨tradeJ_e hj (by omega), _, _, _, _, hmd, rfl⟩
      · skip
        refine n_iload_n O dX6_trades_15 rfl ?_
        refine r_iconst O dX6_trades_16 ?_
        refine r_iadd O dX6_trades_17 ?_
        refine n_istore_n O dX6_trades_18 (by decide) rfl ?_
        have L19 : ∀ (zk : Nat) (k fd : Int) (s1 t1 : Int → Int) (lb : Int), ((i < k ∧ k ≤ qn v) ∧ tradeJ v i k fd ∧ mR td s1 v) → (7 - k).toNat = zk → G K X 4 19 [(0, .ref (kad K 0)), (1, .int (iI fd)), (2, .int (iI i)), (3, .int (iI k))] [] (layM K tx ty td dr bg s1 pa kn im kp ns nd ap lb hh t1) := by
          intro zk
          induction zk using Nat.strongRecOn with
          | ind zk ih19 =>
            intro k fd s1 t1 lb hinv hk
            obtain ⟨hk, hj, hmd⟩ := hinv
            have hfb := tradeJ_b hj
            refine n_iload_n O dX6_trades_19 rfl ?_
            refine n_aload_n O dX6_trades_20 rfl ?_
            refine m_get_td O hM fl_X6_13 dX6_trades_21 ?_
            refine r_iconst O dX6_trades_24 ?_
            refine m_ld_td O hM (by omega) (by omega) dX6_trades_25 ?_
            refine r_icmp_ge (tgt := 87) O ⟨by omega, by omega⟩ ⟨by omega, by omega⟩ dX6_trades_26 (by decide) (fun hc26 => ?_) (fun hc26 => ?_)
            · skip
              refine n_iinc O dX6_trades_87 (by decide) rfl rfl ?_
              refine r_goto (tgt := 5) O dX6_trades_90 (by decide) ?_
              exact G_chk (ih5 _ (by omega) (i + 1) _ _ _ _ ⟨by omega, tradeJ_out hj (by omega), hmd⟩ rfl) (zsc rfl (zsc rfl (zsc rfl zsn)))
            · skip
              refine n_iload_n O dX6_trades_29 rfl ?_
              refine r_bipush O (by decide +kernel) dX6_trades_30 ?_
              refine r_icmp_ne (tgt := 81) O ⟨by omega, by omega⟩ ⟨by omega, by omega⟩ dX6_trades_32 (by decide) (fun hc32 => ?_) (fun hc32 => ?_)
              · skip
                refine n_iinc O dX6_trades_81 (by decide) rfl rfl ?_
                refine r_goto (tgt := 19) O dX6_trades_84 (by decide) ?_
                exact G_chk (ih19 _ (by omega) (k + 1) _ _ _ _ (by first | exact ⟨by omega, tradeJ_s hj (by omega), hmd⟩ | exact ⟨by omega, tradeJ_p (by omega), hmr40⟩ | exact ⟨by omega, tradeJ_y hj (by omega) (by omega) (by omega) (by omega), hr8⟩ | exact ⟨by omega, tradeJ_n hj (by omega) (by omega), hr8⟩) rfl) (zsc rfl (zsc rfl (zsc rfl (zsc rfl zsn))))
              · skip
                have hf4 : fd = -4 := by omega
                subst hf4
                refine n_aload_n O dX6_trades_35 rfl ?_
                refine n_aload_n O dX6_trades_36 rfl ?_
                refine r_callV0i O (C_X6_all hI hM _ _ _ _ _ _ _ _ _ _ _ _ _ _ _ _ (qn v).toNat (by omega) (by omega)) q_X6_104 (by rw [hM]; decide) (fs := _) rfl rfl rfl (by decide) (by decide) (Nat.le_of_ble_eq_true rfl) dX6_trades_37 (fun zz37 zu37 hz37 => ?_)
                obtain ⟨rfl, rfl⟩ := hz37
                refine r_callV1i O (C_X6_isPassed hI hM _ _ _ _ _ _ _ _ _ _ _ _ _ _ _ _ v hv hmd (2 ^ (qn v).toNat - 1) (by omega)) q_X6_133 (by rw [hM]; decide) (fs := _) rfl rfl rfl (by decide) (by decide) (Nat.le_of_ble_eq_true rfl) dX6_trades_40 (fun zz40 zu40 hz40 => ?_)
                obtain ⟨hzp40, y40, s40, t40, w40, huq40, hwh40, hmr40, rfl⟩ := hz40
                have h0140 := letsV_01 v (2 ^ (qn v).toNat - 1)
                have hla40 : letsV v (2 ^ (qn v).toNat - 1) = passI v := lets_all hv
                rw [hla40] at hzp40 h0140
                refine r_if_ne (tgt := 81) O ⟨by omega, by omega⟩ dX6_trades_43 (by decide) (fun hc43 => ?_) (fun hc43 => ?_)
                · skip
                  refine n_iinc O dX6_trades_81 (by decide) rfl rfl ?_
                  refine r_goto (tgt := 19) O dX6_trades_84 (by decide) ?_
                  exact G_chk (ih19 _ (by omega) (k + 1) _ _ _ _ (by first | exact ⟨by omega, tradeJ_s hj (by omega), hmd⟩ | exact ⟨by omega, tradeJ_p (by omega), hmr40⟩ | exact ⟨by omega, tradeJ_y hj (by omega) (by omega) (by omega) (by omega), hr8⟩ | exact ⟨by omega, tradeJ_n hj (by omega) (by omega), hr8⟩) rfl) (zsc rfl (zsc rfl (zsc rfl (zsc rfl zsn))))
                · skip
                  refine n_aload_n O dX6_trades_46 rfl ?_
                  refine n_iload_n O dX6_trades_47 rfl ?_
                  refine n_iload_n O dX6_trades_48 rfl ?_
                  refine r_callV2v O (C_X6_swaps hI hM _ _ _ _ _ _ _ _ _ _ _ _ _ _ _ _ v hv hmr40 i k (by omega) (by omega) (by omega) (by omega)) q_X6_114 (by rw [hM]; decide) (fs := _) rfl rfl rfl (by decide) (by decide) (Nat.le_of_ble_eq_true rfl) dX6_trades_49 (fun zu49 hz49 => ?_)
                  obtain ⟨s6, hr6, rfl⟩ := hz49
                  refine n_aload_n O dX6_trades_52 rfl ?_
                  refine n_aload_n O dX6_trades_53 rfl ?_
                  refine r_callV0i O (C_X6_all hI hM _ _ _ _ _ _ _ _ _ _ _ _ _ _ _ _ (qn v).toNat (by omega) (by omega)) q_X6_104 (by rw [hM]; decide) (fs := _) rfl rfl rfl (by decide) (by decide) (Nat.le_of_ble_eq_true rfl) dX6_trades_54 (fun zz54 zu54 hz54 => ?_)
                  obtain ⟨rfl, rfl⟩ := hz54
                  refine r_callV1i O (C_X6_isPassed hI hM _ _ _ _ _ _ _ _ _ _ _ _ _ _ _ _ (exchV v i k) (okV_exchV hv (i := i) (k := k) (by omega) (by omega) (by omega) (by omega)) hr6 (2 ^ (qn v).toNat - 1) (by omega)) q_X6_133 (by rw [hM]; decide) (fs := _) rfl rfl rfl (by decide) (by decide) (Nat.le_of_ble_eq_true rfl) dX6_trades_57 (fun zz57 zu57 hz57 => ?_)
                  obtain ⟨hzp57, y57, s57, t57, w57, huq57, hwh57, hmr57, rfl⟩ := hz57
                  have h0157 := letsV_01 (exchV v i k) (2 ^ (qn v).toNat - 1)
                  have hla57 : letsV (exchV v i k) (2 ^ (qn v).toNat - 1) = passI (exchV v i k) := lets_all (okV_exchV hv (i := i) (k := k) (by omega) (by omega) (by omega) (by omega))
                  rw [hla57] at hzp57 h0157
                  refine r_if_eq (tgt := 72) O ⟨by omega, by omega⟩ dX6_trades_60 (by decide) (fun hc60 => ?_) (fun hc60 => ?_)
                  · skip
                    refine r_bipush O (by decide +kernel) dX6_trades_72 ?_
                    refine n_istore_n O dX6_trades_74 (by decide) rfl ?_
                    refine n_aload_n O dX6_trades_75 rfl ?_
                    refine n_iload_n O dX6_trades_76 rfl ?_
                    refine n_iload_n O dX6_trades_77 rfl ?_
                    refine r_callV2v O (C_X6_swaps hI hM _ _ _ _ _ _ _ _ _ _ _ _ _ _ _ _ (exchV v i k) (okV_exchV hv (i := i) (k := k) (by omega) (by omega) (by omega) (by omega)) hmr57 i k (by omega) (by show i < qn v; omega) (by omega) (by show k < qn v; omega)) q_X6_114 (by rw [hM]; decide) (fs := _) rfl rfl rfl (by decide) (by decide) (Nat.le_of_ble_eq_true rfl) dX6_trades_78 (fun zu78 hz78 => ?_)
                    obtain ⟨s7, hr7, rfl⟩ := hz78
                    have hr8 := mR_eqv hr7 (by show qn v ≤ 7; omega) (eqv_exch2 (v := v) (i := i) (k := k))
                    refine n_iinc O dX6_trades_81 (by decide) rfl rfl ?_
                    refine r_goto (tgt := 19) O dX6_trades_84 (by decide) ?_
                    exact G_chk (ih19 _ (by omega) (k + 1) _ _ _ _ (by first | exact ⟨by omega, tradeJ_s hj (by omega), hmd⟩ | exact ⟨by omega, tradeJ_p (by omega), hmr40⟩ | exact ⟨by omega, tradeJ_y hj (by omega) (by omega) (by omega) (by omega), hr8⟩ | exact ⟨by omega, tradeJ_n hj (by omega) (by omega), hr8⟩) rfl) (zsc rfl (zsc rfl (zsc rfl (zsc rfl zsn))))
                  · skip
                    refine r_bipush O (by decide +kernel) dX6_trades_63 ?_
                    refine n_iload_n O dX6_trades_65 rfl ?_
                    refine r_imul O dX6_trades_66 ?_
                    refine n_iload_n O dX6_trades_67 rfl ?_
                    refine r_iadd O dX6_trades_68 ?_
                    refine r_goto (tgt := 74) O dX6_trades_69 (by decide) ?_
                    refine n_istore_n O dX6_trades_74 (by decide) rfl ?_
                    refine n_aload_n O dX6_trades_75 rfl ?_
                    refine n_iload_n O dX6_trades_76 rfl ?_
                    refine n_iload_n O dX6_trades_77 rfl ?_
                    refine r_callV2v O (C_X6_swaps hI hM _ _ _ _ _ _ _ _ _ _ _ _ _ _ _ _ (exchV v i k) (okV_exchV hv (i := i) (k := k) (by omega) (by omega) (by omega) (by omega)) hmr57 i k (by omega) (by show i < qn v; omega) (by omega) (by show k < qn v; omega)) q_X6_114 (by rw [hM]; decide) (fs := _) rfl rfl rfl (by decide) (by decide) (Nat.le_of_ble_eq_true rfl) dX6_trades_78 (fun zu78 hz78 => ?_)
                    obtain ⟨s7, hr7, rfl⟩ := hz78
                    have hr8 := mR_eqv hr7 (by show qn v ≤ 7; omega) (eqv_exch2 (v := v) (i := i) (k := k))
                    refine n_iinc O dX6_trades_81 (by decide) rfl rfl ?_
                    refine r_goto (tgt := 19) O dX6_trades_84 (by decide) ?_
                    exact G_chk (ih19 _ (by omega) (k + 1) _ _ _ _ (by first | exact ⟨by omega, tradeJ_s hj (by omega), hmd⟩ | exact ⟨by omega, tradeJ_p (by omega), hmr40⟩ | exact ⟨by omega, tradeJ_y hj (by omega) (by omega) (by omega) (by omega), hr8⟩ | exact ⟨by omega, tradeJ_n hj (by omega) (by omega), hr8⟩) rfl) (zsc rfl (zsc rfl (zsc rfl (zsc rfl zsn))))
        exact G_chk (L19 _ (i + 1) _ _ _ _ ⟨by omega, tradeJ_in hj, hmd⟩ rfl) (zsc rfl (zsc rfl (zsc rfl (zsc rfl zsn))))
  exact G_chk (L5 _ 0 (-4) ss tt la ⟨by omega, tradeJ_0 v, hr⟩ rfl) (zsc rfl (zsc rfl (zsc rfl zsn)))
set_option maxHeartbeats 4000000 in
theorem C_X6_partOf {K : zK} (hI : zInj K) (ct : zE) (a b p : Int) (ha : 0 ≤ a ∧ a < 2147483648) (hb : 0 < b ∧ b < 16777216) (bp : zB p) : zCi K yX6_partOf cX6_partOf 6 (some .int) 0 [.int (iI a), .int (iI b), .int (iI p)] ct (fun z u => z = lowT a b p ∧ u = ct) := by
  obtain ⟨bp1, bp2⟩ := id bp
  have hg1 : 0 < Nat.gcd a.toNat b.toNat := Nat.gcd_pos_of_pos_right _ (by omega)
  have hg2 : Nat.gcd a.toNat b.toNat ≤ b.toNat := Nat.gcd_le_right _ (by omega)
  have ea : ((a.toNat : Nat) : Int) = a := by omega
  have eb : ((b.toNat : Nat) : Int) = b := by omega
  refine zCi_in hI (by decide +kernel) (Nat.le_of_ble_eq_true rfl) (fun X O hE => ?_)
  refine n_iload_n O dX6_partOf_0 rfl ?_
  refine n_istore_n O dX6_partOf_1 (by decide) rfl ?_
  refine n_iload_n O dX6_partOf_2 rfl ?_
  refine n_istore O dX6_partOf_3 (by decide) rfl ?_
  have L5 : ∀ (zk : Nat) (x y : Nat), ((x < 2147483648 ∧ y < 16777216) ∧ Nat.gcd x y = Nat.gcd a.toNat b.toNat) → y = zk → G K X 6 5 [(0, .int (iI a)), (1, .int (iI b)), (2, .int (iI p)), (3, .int (iI (x : Int))), (4, .int (iI (y : Int)))] [] ct := by
    intro zk
    induction zk using Nat.strongRecOn with
    | ind zk ih5 =>
      intro x y hinv hk
      obtain ⟨hxy, hg⟩ := hinv
      refine n_iload O dX6_partOf_5 rfl ?_
      refine r_if_le (tgt := 26) O ⟨by omega, by omega⟩ dX6_partOf_7 (by decide) (fun hc7 => ?_) (fun hc7 => ?_)
      · skip
        have ey : y = 0 := by omega
        rw [ey, Nat.gcd_zero_right] at hg
        rw [hg]
        refine n_iload_n O dX6_partOf_26 rfl ?_
        refine r_if_ne (tgt := 36) O ⟨by omega, by omega⟩ dX6_partOf_27 (by decide) (fun hc27 => ?_) (fun hc27 => ?_)
        · skip
          refine n_iload_n O dX6_partOf_36 rfl ?_
          refine n_iload_n O dX6_partOf_37 rfl ?_
          refine r_idiv O (iI_ne0 (by omega) (by omega)) (iI_div (by omega) (by omega) (by omega) (by omega)) dX6_partOf_38 ?_
          exact hE _ _ _ _ dX6_partOf_39 rfl ⟨by unfold lowT; first | (rw [if_neg (by omega), if_pos (by omega)]; done) | (rw [if_neg (by omega), if_neg (by omega)]; done), rfl⟩
        · skip
          refine n_iload_n O dX6_partOf_30 rfl ?_
          refine n_iload_n O dX6_partOf_31 rfl ?_
          refine r_idiv O (iI_ne0 (by omega) (by omega)) (iI_div (by omega) (by omega) (by omega) (by omega)) dX6_partOf_32 ?_
          refine r_goto (tgt := 39) O dX6_partOf_33 (by decide) ?_
          exact hE _ _ _ _ dX6_partOf_39 rfl ⟨by unfold lowT; first | (rw [if_neg (by omega), if_pos (by omega)]; done) | (rw [if_neg (by omega), if_neg (by omega)]; done), rfl⟩
      · skip
        refine n_iload_n O dX6_partOf_10 rfl ?_
        refine n_iload O dX6_partOf_11 rfl ?_
        refine r_irem O (iI_ne0 (by omega) (by omega)) (iI_remN (a := x) (b := y) (by omega) (by omega) (by omega)) dX6_partOf_13 ?_
        refine n_istore O dX6_partOf_14 (by decide) rfl ?_
        refine n_iload O dX6_partOf_16 rfl ?_
        refine n_istore_n O dX6_partOf_18 (by decide) rfl ?_
        refine n_iload O dX6_partOf_19 rfl ?_
        refine n_istore O dX6_partOf_21 (by decide) rfl ?_
        refine r_goto (tgt := 5) O dX6_partOf_23 (by decide) ?_
        have hml : x % y < y := Nat.mod_lt _ (by omega)
        exact G_chk (ih5 _ (by omega) y (x % y) ⟨by omega, (gcd_step x y).symm.trans hg⟩ rfl) (zsc (by first | rfl | (rw [ea]; rfl) | (rw [eb]; rfl)) (zsc (by first | rfl | (rw [ea]; rfl) | (rw [eb]; rfl)) (zsc (by first | rfl | (rw [ea]; rfl) | (rw [eb]; rfl)) (zsc (by first | rfl | (rw [ea]; rfl) | (rw [eb]; rfl)) (zsc (by first | rfl | (rw [ea]; rfl) | (rw [eb]; rfl)) zsn)))))
  exact G_chk (L5 _ a.toNat b.toNat ⟨by omega, rfl⟩ rfl) (zsc (by first | rfl | (rw [ea]; rfl) | (rw [eb]; rfl)) (zsc (by first | rfl | (rw [ea]; rfl) | (rw [eb]; rfl)) (zsc (by first | rfl | (rw [ea]; rfl) | (rw [eb]; rfl)) (zsc (by first | rfl | (rw [ea]; rfl) | (rw [eb]; rfl)) (zsc (by first | rfl | (rw [ea]; rfl) | (rw [eb]; rfl)) zsn)))))
set_option maxHeartbeats 4000000 in
theorem C_X6_power {K : zK} (hI : zInj K) (hM : kN K = 11) (tx : Int → Int) (ty : Int) (td dr bg ss pa : Int → Int) (kn : Int) (im : Int → Int) (kp : Int) (ns : Int → Int) (nd ap la : Int) (hh tt : Int → Int) (v : SV) (hv : okV v) (hr : mR td ss v) (i : Int) (bi : zB i) (p : Int) (bp : zB p)  : zCi K yX6_power cX6_power 5 (some .int) 4 [.ref (kad K 0), .int (iI i), .int (iI p)] (layM K tx ty td dr bg ss pa kn im kp ns nd ap la hh tt) (fun z u => (¬ ((0 ≤ i ∧ i < qn v) ∧ 0 ≤ p ∧ p ≤ 1) ∧ z = -1 ∧ u = (layM K tx ty td dr bg ss pa kn im kp ns nd ap la hh tt)) ∨ (((0 ≤ i ∧ i < qn v) ∧ 0 ≤ p ∧ p ≤ 1) ∧ z = lowT (decN (letsV v) (qn v).toNat i.toNat (2 ^ (qn v).toNat)) (facN (qn v).toNat) p ∧ ∃ (s2 h2 t2 : Int → Int) (w2 : Int), mR td s2 v ∧ u = (layM K tx ty td dr bg s2 pa kn im kp ns nd ap w2 h2 t2))) := by
  obtain ⟨hn7, ham, hhe, hsa, hro, hfa, hm⟩ := id hv
  obtain ⟨r1, r2, r3, r4, r5, r6, rm⟩ := id hr
  have hpw := pow_b (qn v).toNat (by omega)
  obtain ⟨bi1, bi2⟩ := id bi
  obtain ⟨bp1, bp2⟩ := id bp
  refine zCi_in hI (by decide +kernel) (Nat.le_of_ble_eq_true rfl) (fun X O hE => ?_)
  refine n_aload_n O dX6_power_0 rfl ?_
  refine n_iload_n O dX6_power_1 rfl ?_
  refine r_callV1i O (C_X6_isMember hI hM _ _ _ _ _ _ _ _ _ _ _ _ _ _ _ _ (by omega) _ ⟨by omega, by omega⟩) q_X6_89 (by rw [hM]; decide) (fs := _) rfl rfl rfl (by decide) (by decide) (Nat.le_of_ble_eq_true rfl) dX6_power_2 (fun zz2 zu2 hz2 => ?_)
  obtain ⟨hzi2, rfl⟩ := hz2
  have hic2 := inI_c hzi2
  refine r_if_eq (tgt := 17) O ⟨by omega, by omega⟩ dX6_power_5 (by decide) (fun hc5 => ?_) (fun hc5 => ?_)
  · skip
    refine r_iconst O dX6_power_17 ?_
    exact hE _ _ _ _ dX6_power_18 rfl (Or.inl ⟨by omega, rfl, rfl⟩)
  · skip
    refine n_iload_n O dX6_power_8 rfl ?_
    refine r_iconst O dX6_power_9 ?_
    refine r_iconst O dX6_power_10 ?_
    refine r_callS3i O (C_X6_in hI _ _ _ _ ⟨by omega, by omega⟩ ⟨by omega, by omega⟩ ⟨by omega, by omega⟩) q_X6_50 (by decide) (by decide) (Nat.le_of_ble_eq_true rfl) dX6_power_11 (fun zz11 zu11 hz11 => ?_)
    obtain ⟨hzi11, rfl⟩ := hz11
    have hic11 := inI_c hzi11
    refine r_if_ne (tgt := 19) O ⟨by omega, by omega⟩ dX6_power_14 (by decide) (fun hc14 => ?_) (fun hc14 => ?_)
    · skip
      refine r_iconst O dX6_power_19 ?_
      refine n_istore_n O dX6_power_20 (by decide) rfl ?_
      refine r_iconst O dX6_power_21 ?_
      refine n_istore O dX6_power_22 (by decide) rfl ?_
      have L24 : ∀ (zk : Nat) (k : Nat) (fd : Int) (s1 t1 : Int → Int) (lb : Int), (k ≤ 2 ^ (qn v).toNat ∧ fd = decN (letsV v) (qn v).toNat i.toNat k ∧ mR td s1 v) → 128 - k = zk → G K X 5 24 [(0, .ref (kad K 0)), (1, .int (iI i)), (2, .int (iI p)), (3, .int (iI fd)), (4, .int (iI (k : Int)))] [] (layM K tx ty td dr bg s1 pa kn im kp ns nd ap lb hh t1) := by
        intro zk
        induction zk using Nat.strongRecOn with
        | ind zk ih24 =>
          intro k fd s1 t1 lb hinv hk
          obtain ⟨hk, hfd, hmd⟩ := hinv
          refine n_iload O dX6_power_24 rfl ?_
          refine n_aload_n O dX6_power_26 rfl ?_
          refine r_callV0i O (C_X6_all hI hM _ _ _ _ _ _ _ _ _ _ _ _ _ _ _ _ (qn v).toNat (by omega) (by omega)) q_X6_104 (by rw [hM]; decide) (fs := _) rfl rfl rfl (by decide) (by decide) (Nat.le_of_ble_eq_true rfl) dX6_power_27 (fun zz27 zu27 hz27 => ?_)
          obtain ⟨rfl, rfl⟩ := hz27
          refine r_icmp_gt (tgt := 99) O ⟨by omega, by omega⟩ ⟨by omega, by omega⟩ dX6_power_30 (by decide) (fun hc30 => ?_) (fun hc30 => ?_)
          · skip
            have ek : k = 2 ^ (qn v).toNat := by omega
            rw [ek] at hfd
            subst hfd
            refine n_iload_n O dX6_power_99 rfl ?_
            refine n_aload_n O dX6_power_100 rfl ?_
            refine m_get_td O hM fl_X6_13 dX6_power_101 ?_
            refine r_iconst O dX6_power_104 ?_
            refine m_ld_td O hM (by omega) (by omega) dX6_power_105 ?_
            refine G_st (st' := .int (iI (((qn v).toNat : Nat) : Int)) :: _) (by congr 3; omega) ?_
            refine r_callS1i O (C_X6_orders hI _ (qn v).toNat (by omega)) q_X6_139 (by decide) (by decide) (Nat.le_of_ble_eq_true rfl) dX6_power_106 (fun zz106 zu106 hz106 => ?_)
            obtain ⟨rfl, rfl⟩ := hz106
            have hfc := facN_c (qn v).toNat (by omega)
            have hdb := decN_b (L := letsV v) (n := (qn v).toNat) (i := i.toNat) (by omega) (by omega) (2 ^ (qn v).toNat) (Nat.le_refl _)
            refine n_iload_n O dX6_power_109 rfl ?_
            refine r_callS3i O (C_X6_partOf hI _ _ _ _ ⟨by omega, by omega⟩ ⟨by omega, by omega⟩ ⟨by omega, by omega⟩) q_X6_142 (by decide) (by decide) (Nat.le_of_ble_eq_true rfl) dX6_power_110 (fun zz110 zu110 hz110 => ?_)
            obtain ⟨rfl, rfl⟩ := hz110
            exact hE _ _ _ _ dX6_power_113 rfl (Or.inr ⟨by omega, rfl, _, _, _, _, hmd, rfl⟩)
          · skip
            have hkl := bit_ltI (s := k) (i := i.toNat) (n := (qn v).toNat) (by omega) (by omega) (by omega)
            have hbi : k >>> i.toNat % 2 = bitI k i.toNat := rfl
            refine n_iload O dX6_power_33 rfl ?_
            refine n_iload_n O dX6_power_35 rfl ?_
            refine r_ishr O (bit_shrI (by omega) (by omega) (by omega)) dX6_power_36 ?_
            refine r_iconst O dX6_power_37 ?_
            refine r_iand O (bit_and1 (bit_d6 k (by omega) i.toNat (by omega))) dX6_power_38 ?_
            refine r_if_ne (tgt := 93) O ⟨by omega, by omega⟩ dX6_power_39 (by decide) (fun hc39 => ?_) (fun hc39 => ?_)
            · skip
              refine n_iinc O dX6_power_93 (by decide) rfl rfl ?_
              refine r_goto (tgt := 24) O dX6_power_96 (by decide) ?_
              exact G_chk (ih24 _ (by omega) (k + 1) _ _ _ _ ⟨by omega, decN_st _ _ _ _ (by first | exact Or.inr ⟨hfd, by omega⟩ | exact Or.inl ⟨by rw [hfd], by omega, by omega, by omega⟩), by first | exact hmr58 | exact hmr45 | exact hmd⟩ rfl) (zsc rfl (zsc rfl (zsc rfl (zsc rfl (zsc rfl zsn)))))
            · skip
              refine n_aload_n O dX6_power_42 rfl ?_
              refine n_iload O dX6_power_43 rfl ?_
              refine r_callV1i O (C_X6_isPassed hI hM _ _ _ _ _ _ _ _ _ _ _ _ _ _ _ _ v hv hmd k (by omega)) q_X6_133 (by rw [hM]; decide) (fs := _) rfl rfl rfl (by decide) (by decide) (Nat.le_of_ble_eq_true rfl) dX6_power_45 (fun zz45 zu45 hz45 => ?_)
              obtain ⟨hzp45, y45, s45, t45, w45, huq45, hwh45, hmr45, rfl⟩ := hz45
              have h0145 := letsV_01 v k
              refine r_if_ne (tgt := 93) O ⟨by omega, by omega⟩ dX6_power_48 (by decide) (fun hc48 => ?_) (fun hc48 => ?_)
              · skip
                refine n_iinc O dX6_power_93 (by decide) rfl rfl ?_
                refine r_goto (tgt := 24) O dX6_power_96 (by decide) ?_
                exact G_chk (ih24 _ (by omega) (k + 1) _ _ _ _ ⟨by omega, decN_st _ _ _ _ (by first | exact Or.inr ⟨hfd, by omega⟩ | exact Or.inl ⟨by rw [hfd], by omega, by omega, by omega⟩), by first | exact hmr58 | exact hmr45 | exact hmd⟩ rfl) (zsc rfl (zsc rfl (zsc rfl (zsc rfl (zsc rfl zsn)))))
              · skip
                refine n_aload_n O dX6_power_51 rfl ?_
                refine n_iload O dX6_power_52 rfl ?_
                refine r_iconst O dX6_power_54 ?_
                refine n_iload_n O dX6_power_55 rfl ?_
                refine r_ishl O (bit_shlI (by omega) (by omega)) dX6_power_56 ?_
                refine r_ior O (bit_or (by omega) (by omega)) dX6_power_57 ?_
                refine r_callV1i O (C_X6_isPassed hI hM _ _ _ _ _ _ _ _ _ _ _ _ _ _ _ _ v hv hmr45 (k ||| 2 ^ i.toNat) hkl) q_X6_133 (by rw [hM]; decide) (fs := _) rfl rfl rfl (by decide) (by decide) (Nat.le_of_ble_eq_true rfl) dX6_power_58 (fun zz58 zu58 hz58 => ?_)
                obtain ⟨hzp58, y58, s58, t58, w58, huq58, hwh58, hmr58, rfl⟩ := hz58
                have h0158 := letsV_01 v (k ||| 2 ^ i.toNat)
                refine r_if_eq (tgt := 93) O ⟨by omega, by omega⟩ dX6_power_61 (by decide) (fun hc61 => ?_) (fun hc61 => ?_)
                · skip
                  refine n_iinc O dX6_power_93 (by decide) rfl rfl ?_
                  refine r_goto (tgt := 24) O dX6_power_96 (by decide) ?_
                  exact G_chk (ih24 _ (by omega) (k + 1) _ _ _ _ ⟨by omega, decN_st _ _ _ _ (by first | exact Or.inr ⟨hfd, by omega⟩ | exact Or.inl ⟨by rw [hfd], by omega, by omega, by omega⟩), by first | exact hmr58 | exact hmr45 | exact hmd⟩ rfl) (zsc rfl (zsc rfl (zsc rfl (zsc rfl (zsc rfl zsn)))))
                · skip
                  have hpl := (pop_lt (qn v).toNat (by omega) k (by omega)).2 i.toNat (by omega) (by omega)
                  have hp1 := popN_b k
                  refine n_iload_n O dX6_power_64 rfl ?_
                  refine n_iload O dX6_power_65 rfl ?_
                  refine r_callS1i O (C_X6_ones hI _ k (by omega)) q_X6_136 (by decide) (by decide) (Nat.le_of_ble_eq_true rfl) dX6_power_67 (fun zz67 zu67 hz67 => ?_)
                  obtain ⟨rfl, rfl⟩ := hz67
                  refine r_callS1i O (C_X6_orders hI _ (popN k) (by omega)) q_X6_139 (by decide) (by decide) (Nat.le_of_ble_eq_true rfl) dX6_power_70 (fun zz70 zu70 hz70 => ?_)
                  obtain ⟨rfl, rfl⟩ := hz70
                  refine n_aload_n O dX6_power_73 rfl ?_
                  refine m_get_td O hM fl_X6_13 dX6_power_74 ?_
                  refine r_iconst O dX6_power_77 ?_
                  refine m_ld_td O hM (by omega) (by omega) dX6_power_78 ?_
                  refine r_iconst O dX6_power_79 ?_
                  refine r_isub O dX6_power_80 ?_
                  refine n_iload O dX6_power_81 rfl ?_
                  refine r_callS1i O (C_X6_ones hI _ k (by omega)) q_X6_136 (by decide) (by decide) (Nat.le_of_ble_eq_true rfl) dX6_power_83 (fun zz83 zu83 hz83 => ?_)
                  obtain ⟨rfl, rfl⟩ := hz83
                  refine r_isub O dX6_power_86 ?_
                  refine G_st (st' := .int (iI (((qn v).toNat - 1 - popN k : Nat) : Int)) :: _) (by congr 3; omega) ?_
                  refine r_callS1i O (C_X6_orders hI _ ((qn v).toNat - 1 - popN k) (by omega)) q_X6_139 (by decide) (by decide) (Nat.le_of_ble_eq_true rfl) dX6_power_87 (fun zz87 zu87 hz87 => ?_)
                  obtain ⟨rfl, rfl⟩ := hz87
                  refine r_imul O dX6_power_90 ?_
                  refine r_iadd O dX6_power_91 ?_
                  refine n_istore_n O dX6_power_92 (by decide) rfl ?_
                  refine n_iinc O dX6_power_93 (by decide) rfl rfl ?_
                  refine r_goto (tgt := 24) O dX6_power_96 (by decide) ?_
                  exact G_chk (ih24 _ (by omega) (k + 1) _ _ _ _ ⟨by omega, decN_st _ _ _ _ (by first | exact Or.inr ⟨hfd, by omega⟩ | exact Or.inl ⟨by rw [hfd], by omega, by omega, by omega⟩), by first | exact hmr58 | exact hmr45 | exact hmd⟩ rfl) (zsc rfl (zsc rfl (zsc rfl (zsc rfl (zsc rfl zsn)))))
      exact G_chk (L24 _ 0 0 ss tt la ⟨by omega, rfl, hr⟩ rfl) (zsc rfl (zsc rfl (zsc rfl (zsc rfl (zsc rfl zsn)))))
    · skip
      refine r_iconst O dX6_power_17 ?_
      exact hE _ _ _ _ dX6_power_18 rfl (Or.inl ⟨by omega, rfl, rfl⟩)
set_option maxHeartbeats 4000000 in
theorem C_X6_likely {K : zK} (hI : zInj K) (hM : kN K = 11) (tx : Int → Int) (ty : Int) (td dr bg ss pa : Int → Int) (kn : Int) (im : Int → Int) (kp : Int) (ns : Int → Int) (nd ap la : Int) (hh tt : Int → Int) (v : SV) (hv : okV v) (hr : mR td ss v) (x : Int) (bx : zB x) (p : Int) (bp : zB p)  : zCi K yX6_likely cX6_likely 8 (some .int) 4 [.ref (kad K 0), .int (iI x), .int (iI p)] (layM K tx ty td dr bg ss pa kn im kp ns nd ap la hh tt) (fun z u => (¬ ((0 ≤ x ∧ x ≤ 10) ∧ 0 ≤ p ∧ p ≤ 1) ∧ z = -1 ∧ u = (layM K tx ty td dr bg ss pa kn im kp ns nd ap la hh tt)) ∨ (((0 ≤ x ∧ x ≤ 10) ∧ 0 ≤ p ∧ p ≤ 1) ∧ z = lowT (likN (letsV v) x (qn v).toNat (2 ^ (qn v).toNat)) (tenN (qn v).toNat) p ∧ ∃ (s2 h2 t2 : Int → Int) (w2 : Int), mR td s2 v ∧ u = (layM K tx ty td dr bg s2 pa kn im kp ns nd ap w2 h2 t2))) := by
  obtain ⟨hn7, ham, hhe, hsa, hro, hfa, hm⟩ := id hv
  obtain ⟨r1, r2, r3, r4, r5, r6, rm⟩ := id hr
  have hpw := pow_b (qn v).toNat (by omega)
  obtain ⟨bx1, bx2⟩ := id bx
  obtain ⟨bp1, bp2⟩ := id bp
  refine zCi_in hI (by decide +kernel) (Nat.le_of_ble_eq_true rfl) (fun X O hE => ?_)
  refine n_iload_n O dX6_likely_0 rfl ?_
  refine r_iconst O dX6_likely_1 ?_
  refine r_bipush O (by decide +kernel) dX6_likely_2 ?_
  refine r_callS3i O (C_X6_in hI _ _ _ _ ⟨by omega, by omega⟩ ⟨by omega, by omega⟩ ⟨by omega, by omega⟩) q_X6_50 (by decide) (by decide) (Nat.le_of_ble_eq_true rfl) dX6_likely_4 (fun zz4 zu4 hz4 => ?_)
  obtain ⟨hzi4, rfl⟩ := hz4
  have hic4 := inI_c hzi4
  refine r_if_eq (tgt := 19) O ⟨by omega, by omega⟩ dX6_likely_7 (by decide) (fun hc7 => ?_) (fun hc7 => ?_)
  · skip
    refine r_iconst O dX6_likely_19 ?_
    exact hE _ _ _ _ dX6_likely_20 rfl (Or.inl ⟨by omega, rfl, rfl⟩)
  · skip
    refine n_iload_n O dX6_likely_10 rfl ?_
    refine r_iconst O dX6_likely_11 ?_
    refine r_iconst O dX6_likely_12 ?_
    refine r_callS3i O (C_X6_in hI _ _ _ _ ⟨by omega, by omega⟩ ⟨by omega, by omega⟩ ⟨by omega, by omega⟩) q_X6_50 (by decide) (by decide) (Nat.le_of_ble_eq_true rfl) dX6_likely_13 (fun zz13 zu13 hz13 => ?_)
    obtain ⟨hzi13, rfl⟩ := hz13
    have hic13 := inI_c hzi13
    refine r_if_ne (tgt := 21) O ⟨by omega, by omega⟩ dX6_likely_16 (by decide) (fun hc16 => ?_) (fun hc16 => ?_)
    · skip
      refine r_iconst O dX6_likely_21 ?_
      refine n_istore_n O dX6_likely_22 (by decide) rfl ?_
      refine r_iconst O dX6_likely_23 ?_
      refine n_istore O dX6_likely_24 (by decide) rfl ?_
      refine r_iconst O dX6_likely_26 ?_
      refine n_istore O dX6_likely_27 (by decide) rfl ?_
      have L29 : ∀ (zk : Nat) (j : Nat), ((j : Int) ≤ qn v) → 7 - j = zk → G K X 8 29 [(0, .ref (kad K 0)), (1, .int (iI x)), (2, .int (iI p)), (3, .int (iI 0)), (4, .int (iI (tenN j))), (5, .int (iI (j : Int)))] [] (layM K tx ty td dr bg ss pa kn im kp ns nd ap la hh tt) := by
        intro zk
        induction zk using Nat.strongRecOn with
        | ind zk ih29 =>
          intro j hinv hk
          refine n_iload O dX6_likely_29 rfl ?_
          refine n_aload_n O dX6_likely_31 rfl ?_
          refine m_get_td O hM fl_X6_13 dX6_likely_32 ?_
          refine r_iconst O dX6_likely_35 ?_
          refine m_ld_td O hM (by omega) (by omega) dX6_likely_36 ?_
          refine r_icmp_ge (tgt := 53) O ⟨by omega, by omega⟩ ⟨by omega, by omega⟩ dX6_likely_37 (by decide) (fun hc37 => ?_) (fun hc37 => ?_)
          · skip
            refine r_iconst O dX6_likely_53 ?_
            refine n_istore O dX6_likely_54 (by decide) rfl ?_
            have ej : j = (qn v).toNat := by omega
            subst ej
            have L56 : ∀ (zk : Nat) (k : Nat) (fd : Int) (s1 t1 : Int → Int) (lb : Int), (k ≤ 2 ^ (qn v).toNat ∧ fd = likN (letsV v) x (qn v).toNat k ∧ mR td s1 v) → 128 - k = zk → G K X 8 56 [(0, .ref (kad K 0)), (1, .int (iI x)), (2, .int (iI p)), (3, .int (iI fd)), (4, .int (iI (tenN (qn v).toNat))), (5, .int (iI (k : Int)))] [] (layM K tx ty td dr bg s1 pa kn im kp ns nd ap lb hh t1) := by
              intro zk
              induction zk using Nat.strongRecOn with
              | ind zk ih56 =>
                intro k fd s1 t1 lb hinv hk
                obtain ⟨hk, hfd, hmd⟩ := hinv
                refine n_iload O dX6_likely_56 rfl ?_
                refine n_aload_n O dX6_likely_58 rfl ?_
                refine r_callV0i O (C_X6_all hI hM _ _ _ _ _ _ _ _ _ _ _ _ _ _ _ _ (qn v).toNat (by omega) (by omega)) q_X6_104 (by rw [hM]; decide) (fs := _) rfl rfl rfl (by decide) (by decide) (Nat.le_of_ble_eq_true rfl) dX6_likely_59 (fun zz59 zu59 hz59 => ?_)
                obtain ⟨rfl, rfl⟩ := hz59
                refine r_icmp_gt (tgt := 136) O ⟨by omega, by omega⟩ ⟨by omega, by omega⟩ dX6_likely_62 (by decide) (fun hc62 => ?_) (fun hc62 => ?_)
                · skip
                  have ek : k = 2 ^ (qn v).toNat := by omega
                  rw [ek] at hfd
                  subst hfd
                  have hdb := likN_b (L := letsV v) (x := x) (n := (qn v).toNat) (by omega) (by omega) (by omega) (2 ^ (qn v).toNat)
                  have hfc := tenN_b (qn v).toNat (by omega)
                  refine n_iload_n O dX6_likely_136 rfl ?_
                  refine n_iload O dX6_likely_137 rfl ?_
                  refine n_iload_n O dX6_likely_139 rfl ?_
                  refine r_callS3i O (C_X6_partOf hI _ _ _ _ ⟨by omega, by omega⟩ ⟨by omega, by omega⟩ ⟨by omega, by omega⟩) q_X6_142 (by decide) (by decide) (Nat.le_of_ble_eq_true rfl) dX6_likely_140 (fun zz140 zu140 hz140 => ?_)
                  obtain ⟨rfl, rfl⟩ := hz140
                  exact hE _ _ _ _ dX6_likely_143 rfl (Or.inr ⟨by omega, rfl, _, _, _, _, hmd, rfl⟩)
                · skip
                  refine r_iconst O dX6_likely_65 ?_
                  refine n_istore O dX6_likely_66 (by decide) rfl ?_
                  refine r_iconst O dX6_likely_68 ?_
                  refine n_istore O dX6_likely_69 (by decide) rfl ?_
                  have L71 : ∀ (zk : Nat) (m : Nat), ((m : Int) ≤ qn v) → 7 - m = zk → G K X 8 71 [(0, .ref (kad K 0)), (1, .int (iI x)), (2, .int (iI p)), (3, .int (iI fd)), (4, .int (iI (tenN (qn v).toNat))), (5, .int (iI (k : Int))), (6, .int (iI (casN x k m))), (7, .int (iI (m : Int)))] [] (layM K tx ty td dr bg s1 pa kn im kp ns nd ap lb hh t1) := by
                    intro zk
                    induction zk using Nat.strongRecOn with
                    | ind zk ih71 =>
                      intro m hinv hk
                      have hbi : k >>> m % 2 = bitI k m := rfl
                      refine n_iload O dX6_likely_71 rfl ?_
                      refine n_aload_n O dX6_likely_73 rfl ?_
                      refine m_get_td O hM fl_X6_13 dX6_likely_74 ?_
                      refine r_iconst O dX6_likely_77 ?_
                      refine m_ld_td O hM (by omega) (by omega) dX6_likely_78 ?_
                      refine r_icmp_ge (tgt := 112) O ⟨by omega, by omega⟩ ⟨by omega, by omega⟩ dX6_likely_79 (by decide) (fun hc79 => ?_) (fun hc79 => ?_)
                      · skip
                        have em : m = (qn v).toNat := by omega
                        subst em
                        refine n_iload_n O dX6_likely_112 rfl ?_
                        refine n_aload_n O dX6_likely_113 rfl ?_
                        refine n_iload O dX6_likely_114 rfl ?_
                        refine r_callV1i O (C_X6_isPassed hI hM _ _ _ _ _ _ _ _ _ _ _ _ _ _ _ _ v hv hmd k (by omega)) q_X6_133 (by rw [hM]; decide) (fs := _) rfl rfl rfl (by decide) (by decide) (Nat.le_of_ble_eq_true rfl) dX6_likely_116 (fun zz116 zu116 hz116 => ?_)
                        obtain ⟨hzp116, y116, s116, t116, w116, huq116, hwh116, hmr116, rfl⟩ := hz116
                        have h01116 := letsV_01 v k
                        refine r_if_eq (tgt := 127) O ⟨by omega, by omega⟩ dX6_likely_119 (by decide) (fun hc119 => ?_) (fun hc119 => ?_)
                        · skip
                          refine r_iconst O dX6_likely_127 ?_
                          refine r_iadd O dX6_likely_128 ?_
                          refine n_istore_n O dX6_likely_129 (by decide) rfl ?_
                          refine n_iinc O dX6_likely_130 (by decide) rfl rfl ?_
                          refine r_goto (tgt := 56) O dX6_likely_133 (by decide) ?_
                          exact G_chk (ih56 _ (by omega) (k + 1) _ _ _ _ ⟨by omega, likN_st _ _ _ _ (by first | exact Or.inr ⟨by omega, by omega⟩ | exact Or.inl ⟨by rw [hfd], by omega⟩), hmr116⟩ rfl) (zsc rfl (zsc rfl (zsc rfl (zsc rfl (zsc rfl (zsc rfl zsn))))))
                        · skip
                          refine n_iload O dX6_likely_122 rfl ?_
                          refine r_goto (tgt := 128) O dX6_likely_124 (by decide) ?_
                          refine r_iadd O dX6_likely_128 ?_
                          refine n_istore_n O dX6_likely_129 (by decide) rfl ?_
                          refine n_iinc O dX6_likely_130 (by decide) rfl rfl ?_
                          refine r_goto (tgt := 56) O dX6_likely_133 (by decide) ?_
                          exact G_chk (ih56 _ (by omega) (k + 1) _ _ _ _ ⟨by omega, likN_st _ _ _ _ (by first | exact Or.inr ⟨by omega, by omega⟩ | exact Or.inl ⟨by rw [hfd], by omega⟩), hmr116⟩ rfl) (zsc rfl (zsc rfl (zsc rfl (zsc rfl (zsc rfl (zsc rfl zsn))))))
                      · skip
                        refine n_iload O dX6_likely_82 rfl ?_
                        refine n_iload O dX6_likely_84 rfl ?_
                        refine n_iload O dX6_likely_86 rfl ?_
                        refine r_ishr O (bit_shr (by omega) (by omega)) dX6_likely_88 ?_
                        refine r_iconst O dX6_likely_89 ?_
                        refine r_iand O (bit_and1 (bit_d6 k (by omega) m (by omega))) dX6_likely_90 ?_
                        refine r_iconst O dX6_likely_91 ?_
                        refine r_icmp_ne (tgt := 99) O ⟨by omega, by omega⟩ ⟨by omega, by omega⟩ dX6_likely_92 (by decide) (fun hc92 => ?_) (fun hc92 => ?_)
                        · skip
                          refine r_bipush O (by decide +kernel) dX6_likely_99 ?_
                          refine n_iload_n O dX6_likely_101 rfl ?_
                          refine r_isub O dX6_likely_102 ?_
                          refine r_imul O dX6_likely_103 ?_
                          refine n_istore O dX6_likely_104 (by decide) rfl ?_
                          refine n_iinc O dX6_likely_106 (by decide) rfl rfl ?_
                          refine r_goto (tgt := 71) O dX6_likely_109 (by decide) ?_
                          exact G_chk (ih71 _ (by omega) (m + 1) (by omega) rfl) (zsc (by first | rfl | (show _ = some (Value.int (iI (casN x k m * (if bitI k m = 1 then x else 10 - x)))); first | (rw [if_pos (by omega)]; rfl) | (rw [if_neg (by omega)]; rfl))) (zsc (by first | rfl | (show _ = some (Value.int (iI (casN x k m * (if bitI k m = 1 then x else 10 - x)))); first | (rw [if_pos (by omega)]; rfl) | (rw [if_neg (by omega)]; rfl))) (zsc (by first | rfl | (show _ = some (Value.int (iI (casN x k m * (if bitI k m = 1 then x else 10 - x)))); first | (rw [if_pos (by omega)]; rfl) | (rw [if_neg (by omega)]; rfl))) (zsc (by first | rfl | (show _ = some (Value.int (iI (casN x k m * (if bitI k m = 1 then x else 10 - x)))); first | (rw [if_pos (by omega)]; rfl) | (rw [if_neg (by omega)]; rfl))) (zsc (by first | rfl | (show _ = some (Value.int (iI (casN x k m * (if bitI k m = 1 then x else 10 - x)))); first | (rw [if_pos (by omega)]; rfl) | (rw [if_neg (by omega)]; rfl))) (zsc (by first | rfl | (show _ = some (Value.int (iI (casN x k m * (if bitI k m = 1 then x else 10 - x)))); first | (rw [if_pos (by omega)]; rfl) | (rw [if_neg (by omega)]; rfl))) (zsc (by first | rfl | (show _ = some (Value.int (iI (casN x k m * (if bitI k m = 1 then x else 10 - x)))); first | (rw [if_pos (by omega)]; rfl) | (rw [if_neg (by omega)]; rfl))) (zsc (by first | rfl | (show _ = some (Value.int (iI (casN x k m * (if bitI k m = 1 then x else 10 - x)))); first | (rw [if_pos (by omega)]; rfl) | (rw [if_neg (by omega)]; rfl))) zsn))))))))
                        · skip
                          refine n_iload_n O dX6_likely_95 rfl ?_
                          refine r_goto (tgt := 103) O dX6_likely_96 (by decide) ?_
                          refine r_imul O dX6_likely_103 ?_
                          refine n_istore O dX6_likely_104 (by decide) rfl ?_
                          refine n_iinc O dX6_likely_106 (by decide) rfl rfl ?_
                          refine r_goto (tgt := 71) O dX6_likely_109 (by decide) ?_
                          exact G_chk (ih71 _ (by omega) (m + 1) (by omega) rfl) (zsc (by first | rfl | (show _ = some (Value.int (iI (casN x k m * (if bitI k m = 1 then x else 10 - x)))); first | (rw [if_pos (by omega)]; rfl) | (rw [if_neg (by omega)]; rfl))) (zsc (by first | rfl | (show _ = some (Value.int (iI (casN x k m * (if bitI k m = 1 then x else 10 - x)))); first | (rw [if_pos (by omega)]; rfl) | (rw [if_neg (by omega)]; rfl))) (zsc (by first | rfl | (show _ = some (Value.int (iI (casN x k m * (if bitI k m = 1 then x else 10 - x)))); first | (rw [if_pos (by omega)]; rfl) | (rw [if_neg (by omega)]; rfl))) (zsc (by first | rfl | (show _ = some (Value.int (iI (casN x k m * (if bitI k m = 1 then x else 10 - x)))); first | (rw [if_pos (by omega)]; rfl) | (rw [if_neg (by omega)]; rfl))) (zsc (by first | rfl | (show _ = some (Value.int (iI (casN x k m * (if bitI k m = 1 then x else 10 - x)))); first | (rw [if_pos (by omega)]; rfl) | (rw [if_neg (by omega)]; rfl))) (zsc (by first | rfl | (show _ = some (Value.int (iI (casN x k m * (if bitI k m = 1 then x else 10 - x)))); first | (rw [if_pos (by omega)]; rfl) | (rw [if_neg (by omega)]; rfl))) (zsc (by first | rfl | (show _ = some (Value.int (iI (casN x k m * (if bitI k m = 1 then x else 10 - x)))); first | (rw [if_pos (by omega)]; rfl) | (rw [if_neg (by omega)]; rfl))) (zsc (by first | rfl | (show _ = some (Value.int (iI (casN x k m * (if bitI k m = 1 then x else 10 - x)))); first | (rw [if_pos (by omega)]; rfl) | (rw [if_neg (by omega)]; rfl))) zsn))))))))
                  exact G_chk (L71 _ 0 (by omega) rfl) (zsc (by first | rfl | (show _ = some (Value.int (iI (casN x k m * (if bitI k m = 1 then x else 10 - x)))); first | (rw [if_pos (by omega)]; rfl) | (rw [if_neg (by omega)]; rfl))) (zsc (by first | rfl | (show _ = some (Value.int (iI (casN x k m * (if bitI k m = 1 then x else 10 - x)))); first | (rw [if_pos (by omega)]; rfl) | (rw [if_neg (by omega)]; rfl))) (zsc (by first | rfl | (show _ = some (Value.int (iI (casN x k m * (if bitI k m = 1 then x else 10 - x)))); first | (rw [if_pos (by omega)]; rfl) | (rw [if_neg (by omega)]; rfl))) (zsc (by first | rfl | (show _ = some (Value.int (iI (casN x k m * (if bitI k m = 1 then x else 10 - x)))); first | (rw [if_pos (by omega)]; rfl) | (rw [if_neg (by omega)]; rfl))) (zsc (by first | rfl | (show _ = some (Value.int (iI (casN x k m * (if bitI k m = 1 then x else 10 - x)))); first | (rw [if_pos (by omega)]; rfl) | (rw [if_neg (by omega)]; rfl))) (zsc (by first | rfl | (show _ = some (Value.int (iI (casN x k m * (if bitI k m = 1 then x else 10 - x)))); first | (rw [if_pos (by omega)]; rfl) | (rw [if_neg (by omega)]; rfl))) (zsc (by first | rfl | (show _ = some (Value.int (iI (casN x k m * (if bitI k m = 1 then x else 10 - x)))); first | (rw [if_pos (by omega)]; rfl) | (rw [if_neg (by omega)]; rfl))) (zsc (by first | rfl | (show _ = some (Value.int (iI (casN x k m * (if bitI k m = 1 then x else 10 - x)))); first | (rw [if_pos (by omega)]; rfl) | (rw [if_neg (by omega)]; rfl))) zsn))))))))
            exact G_chk (L56 _ 0 0 ss tt la ⟨by omega, rfl, hr⟩ rfl) (zsc rfl (zsc rfl (zsc rfl (zsc rfl (zsc rfl (zsc rfl zsn))))))
          · skip
            refine n_iload O dX6_likely_40 rfl ?_
            refine r_bipush O (by decide +kernel) dX6_likely_42 ?_
            refine r_imul O dX6_likely_44 ?_
            refine n_istore O dX6_likely_45 (by decide) rfl ?_
            refine n_iinc O dX6_likely_47 (by decide) rfl rfl ?_
            refine r_goto (tgt := 29) O dX6_likely_50 (by decide) ?_
            exact G_chk (ih29 _ (by omega) (j + 1) (by omega) rfl) (zsc rfl (zsc rfl (zsc rfl (zsc rfl (zsc rfl (zsc rfl zsn))))))
      exact G_chk (L29 _ 0 (by omega) rfl) (zsc rfl (zsc rfl (zsc rfl (zsc rfl (zsc rfl (zsc rfl zsn))))))
    · skip
      refine r_iconst O dX6_likely_19 ?_
      exact hE _ _ _ _ dX6_likely_20 rfl (Or.inl ⟨by omega, rfl, rfl⟩)
set_option maxHeartbeats 4000000 in
theorem C_X6_seen {K : zK} (hI : zInj K) (hM : kN K = 11) (tx : Int → Int) (ty : Int) (td dr bg ss pa : Int → Int) (kn : Int) (im : Int → Int) (kp : Int) (ns : Int → Int) (nd ap la : Int) (hh tt : Int → Int) (v : SV) (hv : okV v) (hr : mR td ss v) (hnd : 0 ≤ nd ∧ nd ≤ 6) (i : Int) (bi : zB i) (n : Int) (bn : zB n)  : zCi K yX6_seen cX6_seen 3 (some .int) 2 [.ref (kad K 0), .int (iI i), .int (iI n)] (layM K tx ty td dr bg ss pa kn im kp ns nd ap la hh tt) (fun z u => (¬ ((0 ≤ i ∧ i < qn v) ∧ 0 ≤ n ∧ n ≤ 18) ∧ z = -1 ∧ u = (layM K tx ty td dr bg ss pa kn im kp ns nd ap la hh tt)) ∨ (((0 ≤ i ∧ i < qn v) ∧ 0 ≤ n ∧ n ≤ 18) ∧ nd ≤ 5 ∧ z = nd + 1 ∧ u = (layM K tx ty td dr bg ss pa kn im kp (uI ns nd (20 * i + n)) (nd + 1) ap la hh tt)) ∨ (((0 ≤ i ∧ i < qn v) ∧ 0 ≤ n ∧ n ≤ 18) ∧ ¬ nd ≤ 5 ∧ z = -3 ∧ u = (layM K tx ty td dr bg ss pa kn im kp ns nd ap la hh tt))) := by
  obtain ⟨hn7, ham, hhe, hsa, hro, hfa, hm⟩ := id hv
  obtain ⟨r1, r2, r3, r4, r5, r6, rm⟩ := id hr
  have hpw := pow_b (qn v).toNat (by omega)
  obtain ⟨bi1, bi2⟩ := id bi
  obtain ⟨bn1, bn2⟩ := id bn
  refine zCi_in hI (by decide +kernel) (Nat.le_of_ble_eq_true rfl) (fun X O hE => ?_)
  refine n_aload_n O dX6_seen_0 rfl ?_
  refine n_iload_n O dX6_seen_1 rfl ?_
  refine r_callV1i O (C_X6_isMember hI hM _ _ _ _ _ _ _ _ _ _ _ _ _ _ _ _ (by omega) _ ⟨by omega, by omega⟩) q_X6_89 (by rw [hM]; decide) (fs := _) rfl rfl rfl (by decide) (by decide) (Nat.le_of_ble_eq_true rfl) dX6_seen_2 (fun zz2 zu2 hz2 => ?_)
  obtain ⟨hzi2, rfl⟩ := hz2
  have hic2 := inI_c hzi2
  refine r_if_eq (tgt := 18) O ⟨by omega, by omega⟩ dX6_seen_5 (by decide) (fun hc5 => ?_) (fun hc5 => ?_)
  · skip
    refine r_iconst O dX6_seen_18 ?_
    exact hE _ _ _ _ dX6_seen_19 rfl (Or.inl ⟨by omega, rfl, rfl⟩)
  · skip
    refine n_iload_n O dX6_seen_8 rfl ?_
    refine r_iconst O dX6_seen_9 ?_
    refine r_bipush O (by decide +kernel) dX6_seen_10 ?_
    refine r_callS3i O (C_X6_in hI _ _ _ _ ⟨by omega, by omega⟩ ⟨by omega, by omega⟩ ⟨by omega, by omega⟩) q_X6_50 (by decide) (by decide) (Nat.le_of_ble_eq_true rfl) dX6_seen_12 (fun zz12 zu12 hz12 => ?_)
    obtain ⟨hzi12, rfl⟩ := hz12
    have hic12 := inI_c hzi12
    refine r_if_ne (tgt := 20) O ⟨by omega, by omega⟩ dX6_seen_15 (by decide) (fun hc15 => ?_) (fun hc15 => ?_)
    · skip
      refine n_aload_n O dX6_seen_20 rfl ?_
      refine m_get_nd O hM fl_X6_86 dX6_seen_21 ?_
      refine r_bipush O (by decide +kernel) dX6_seen_24 ?_
      refine r_icmp_ne (tgt := 32) O ⟨by omega, by omega⟩ ⟨by omega, by omega⟩ dX6_seen_26 (by decide) (fun hc26 => ?_) (fun hc26 => ?_)
      · skip
        refine n_aload_n O dX6_seen_32 rfl ?_
        refine m_get_ns O hM fl_X6_31 dX6_seen_33 ?_
        refine n_aload_n O dX6_seen_36 rfl ?_
        refine m_get_nd O hM fl_X6_86 dX6_seen_37 ?_
        refine r_bipush O (by decide +kernel) dX6_seen_40 ?_
        refine n_iload_n O dX6_seen_42 rfl ?_
        refine r_imul O dX6_seen_43 ?_
        refine n_iload_n O dX6_seen_44 rfl ?_
        refine r_iadd O dX6_seen_45 ?_
        refine m_st_ns O hM (by omega) (by omega) dX6_seen_46 ?_
        refine n_aload_n O dX6_seen_47 rfl ?_
        refine r_dup O rfl dX6_seen_48 ?_
        refine m_get_nd O hM fl_X6_86 dX6_seen_49 ?_
        refine r_iconst O dX6_seen_52 ?_
        refine r_iadd O dX6_seen_53 ?_
        refine m_put_nd O hM fl_X6_86 dX6_seen_54 ?_
        refine n_aload_n O dX6_seen_57 rfl ?_
        refine m_get_nd O hM fl_X6_86 dX6_seen_58 ?_
        exact hE _ _ _ _ dX6_seen_61 rfl (Or.inr (Or.inl ⟨by omega, by omega, rfl, rfl⟩))
      · skip
        refine r_bipush O (by decide +kernel) dX6_seen_29 ?_
        exact hE _ _ _ _ dX6_seen_31 rfl (Or.inr (Or.inr ⟨by omega, by omega, rfl, rfl⟩))
    · skip
      refine r_iconst O dX6_seen_18 ?_
      exact hE _ _ _ _ dX6_seen_19 rfl (Or.inl ⟨by omega, rfl, rfl⟩)
set_option maxHeartbeats 4000000 in
theorem C_X6_forget {K : zK} (hI : zInj K) (hM : kN K = 11) (tx : Int → Int) (ty : Int) (td dr bg ss pa : Int → Int) (kn : Int) (im : Int → Int) (kp : Int) (ns : Int → Int) (nd ap la : Int) (hh tt : Int → Int)  : zCi K yX6_forget cX6_forget 2 (some .int) 0 [.ref (kad K 0)] (layM K tx ty td dr bg ss pa kn im kp ns nd ap la hh tt) (fun z u => z = nd ∧ u = (layM K tx ty td dr bg ss pa kn im kp ns 0 ap la hh tt)) := by
  refine zCi_in hI (by decide +kernel) (Nat.le_of_ble_eq_true rfl) (fun X O hE => ?_)
  refine n_aload_n O dX6_forget_0 rfl ?_
  refine m_get_nd O hM fl_X6_86 dX6_forget_1 ?_
  refine n_istore_n O dX6_forget_4 (by decide) rfl ?_
  refine n_aload_n O dX6_forget_5 rfl ?_
  refine r_iconst O dX6_forget_6 ?_
  refine m_put_nd O hM fl_X6_86 dX6_forget_7 ?_
  refine n_iload_n O dX6_forget_10 rfl ?_
  exact hE _ _ _ _ dX6_forget_11 rfl ⟨rfl, rfl⟩
set_option maxHeartbeats 4000000 in
theorem C_X6_keep {K : zK} (hI : zInj K) (hM : kN K = 11) (tx : Int → Int) (ty : Int) (td dr bg ss pa : Int → Int) (kn : Int) (im : Int → Int) (kp : Int) (ns : Int → Int) (nd ap la : Int) (hh tt : Int → Int) (hkp : 0 ≤ kp ∧ kp ≤ 2)  : zCi K yX6_keep cX6_keep 2 (some .int) 0 [.ref (kad K 0)] (layM K tx ty td dr bg ss pa kn im kp ns nd ap la hh tt) (fun z u => (2 ≤ kp ∧ z = -3 ∧ u = (layM K tx ty td dr bg ss pa kn im kp ns nd ap la hh tt)) ∨ (kp < 2 ∧ z = kp + 1 ∧ ∃ i2 : Int → Int, (∀ y : Int, 0 ≤ y → y < 31 → i2 (31 * kp + y) = ss y) ∧ (∀ y : Int, 0 ≤ y → y < 31 * kp → i2 y = im y) ∧ u = (layM K tx ty td dr bg ss pa kn i2 (kp + 1) ns nd ap la hh tt))) := by
  refine zCi_in hI (by decide +kernel) (Nat.le_of_ble_eq_true rfl) (fun X O hE => ?_)
  refine n_aload_n O dX6_keep_0 rfl ?_
  refine m_get_kp O hM fl_X6_83 dX6_keep_1 ?_
  refine r_iconst O dX6_keep_4 ?_
  refine r_icmp_ne (tgt := 11) O ⟨by omega, by omega⟩ ⟨by omega, by omega⟩ dX6_keep_5 (by decide) (fun hc5 => ?_) (fun hc5 => ?_)
  · skip
    refine r_iconst O dX6_keep_11 ?_
    refine n_istore_n O dX6_keep_12 (by decide) rfl ?_
    have L13 : ∀ (zk : Nat) (i : Int) (f1 : Int → Int), ((0 ≤ i ∧ i ≤ 31) ∧ (∀ y : Int, 0 ≤ y → y < i → f1 (31 * kp + y) = ss y) ∧ ∀ y : Int, 0 ≤ y → y < 31 * kp → f1 y = im y) → (31 - i).toNat = zk → G K X 2 13 [(0, .ref (kad K 0)), (1, .int (iI i))] [] (layM K tx ty td dr bg ss pa kn f1 kp ns nd ap la hh tt) := by
      intro zk
      induction zk using Nat.strongRecOn with
      | ind zk ih13 =>
        intro i f1 hinv hk
        obtain ⟨hi, hq, hq2⟩ := hinv
        refine n_iload_n O dX6_keep_13 rfl ?_
        refine r_bipush O (by decide +kernel) dX6_keep_14 ?_
        refine r_icmp_ge (tgt := 45) O ⟨by omega, by omega⟩ ⟨by omega, by omega⟩ dX6_keep_16 (by decide) (fun hc16 => ?_) (fun hc16 => ?_)
        · skip
          refine n_aload_n O dX6_keep_45 rfl ?_
          refine r_dup O rfl dX6_keep_46 ?_
          refine m_get_kp O hM fl_X6_83 dX6_keep_47 ?_
          refine r_iconst O dX6_keep_50 ?_
          refine r_iadd O dX6_keep_51 ?_
          refine m_put_kp O hM fl_X6_83 dX6_keep_52 ?_
          refine n_aload_n O dX6_keep_55 rfl ?_
          refine m_get_kp O hM fl_X6_83 dX6_keep_56 ?_
          exact hE _ _ _ _ dX6_keep_59 rfl (Or.inr ⟨by omega, rfl, _, fun y h0 h1 => hq y h0 (by omega), hq2, rfl⟩)
        · skip
          refine n_aload_n O dX6_keep_19 rfl ?_
          refine m_get_im O hM fl_X6_28 dX6_keep_20 ?_
          refine r_bipush O (by decide +kernel) dX6_keep_23 ?_
          refine n_aload_n O dX6_keep_25 rfl ?_
          refine m_get_kp O hM fl_X6_83 dX6_keep_26 ?_
          refine r_imul O dX6_keep_29 ?_
          refine n_iload_n O dX6_keep_30 rfl ?_
          refine r_iadd O dX6_keep_31 ?_
          refine n_aload_n O dX6_keep_32 rfl ?_
          refine m_get_ss O hM fl_X6_22 dX6_keep_33 ?_
          refine n_iload_n O dX6_keep_36 rfl ?_
          refine m_ld_ss O hM (by omega) (by omega) dX6_keep_37 ?_
          refine m_st_im O hM (by omega) (by omega) dX6_keep_38 ?_
          refine n_iinc O dX6_keep_39 (by decide) rfl rfl ?_
          refine r_goto (tgt := 13) O dX6_keep_42 (by decide) ?_
          exact G_chk (ih13 _ (by omega) (i + 1) _ ⟨by omega, fun y h0 h1 => by by_cases e : y = i; (rw [e, uI_s]); (rw [uI_n _ _ (by omega)]; exact hq y h0 (by omega)), fun y h0 h1 => by rw [uI_n _ _ (by omega)]; exact hq2 y h0 h1⟩ rfl) (zsc rfl (zsc rfl zsn))
    exact G_chk (L13 _ 0 im ⟨by omega, fun y h0 h1 => by omega, fun y _ _ => rfl⟩ rfl) (zsc rfl (zsc rfl zsn))
  · skip
    refine r_bipush O (by decide +kernel) dX6_keep_8 ?_
    exact hE _ _ _ _ dX6_keep_10 rfl (Or.inl ⟨by omega, rfl, rfl⟩)
set_option maxHeartbeats 4000000 in
theorem C_X6_back {K : zK} (hI : zInj K) (hM : kN K = 11) (tx : Int → Int) (ty : Int) (td dr bg ss pa : Int → Int) (kn : Int) (im : Int → Int) (kp : Int) (ns : Int → Int) (nd ap la : Int) (hh tt : Int → Int) (hkp : 0 ≤ kp ∧ kp ≤ 2)  : zCi K yX6_back cX6_back 2 (some .int) 0 [.ref (kad K 0)] (layM K tx ty td dr bg ss pa kn im kp ns nd ap la hh tt) (fun z u => (kp = 0 ∧ z = -2 ∧ u = (layM K tx ty td dr bg ss pa kn im kp ns nd ap la hh tt)) ∨ (1 ≤ kp ∧ z = kp - 1 ∧ ∃ s2 : Int → Int, (∀ y : Int, 0 ≤ y → y < 31 → s2 y = im (31 * (kp - 1) + y)) ∧ u = (layM K tx ty td dr bg s2 pa 0 im (kp - 1) ns nd ap la hh tt))) := by
  refine zCi_in hI (by decide +kernel) (Nat.le_of_ble_eq_true rfl) (fun X O hE => ?_)
  refine n_aload_n O dX6_back_0 rfl ?_
  refine m_get_kp O hM fl_X6_83 dX6_back_1 ?_
  refine r_if_ne (tgt := 10) O ⟨by omega, by omega⟩ dX6_back_4 (by decide) (fun hc4 => ?_) (fun hc4 => ?_)
  · skip
    refine n_aload_n O dX6_back_10 rfl ?_
    refine r_dup O rfl dX6_back_11 ?_
    refine m_get_kp O hM fl_X6_83 dX6_back_12 ?_
    refine r_iconst O dX6_back_15 ?_
    refine r_isub O dX6_back_16 ?_
    refine m_put_kp O hM fl_X6_83 dX6_back_17 ?_
    refine r_iconst O dX6_back_20 ?_
    refine n_istore_n O dX6_back_21 (by decide) rfl ?_
    have L22 : ∀ (zk : Nat) (i : Int) (s1 : Int → Int), ((0 ≤ i ∧ i ≤ 31) ∧ ∀ y : Int, 0 ≤ y → y < i → s1 y = im (31 * (kp - 1) + y)) → (31 - i).toNat = zk → G K X 2 22 [(0, .ref (kad K 0)), (1, .int (iI i))] [] (layM K tx ty td dr bg s1 pa kn im (kp - 1) ns nd ap la hh tt) := by
      intro zk
      induction zk using Nat.strongRecOn with
      | ind zk ih22 =>
        intro i s1 hinv hk
        obtain ⟨hi, hq⟩ := hinv
        refine n_iload_n O dX6_back_22 rfl ?_
        refine r_bipush O (by decide +kernel) dX6_back_23 ?_
        refine r_icmp_ge (tgt := 54) O ⟨by omega, by omega⟩ ⟨by omega, by omega⟩ dX6_back_25 (by decide) (fun hc25 => ?_) (fun hc25 => ?_)
        · skip
          refine n_aload_n O dX6_back_54 rfl ?_
          refine r_iconst O dX6_back_55 ?_
          refine m_put_kn O hM fl_X6_80 dX6_back_56 ?_
          refine n_aload_n O dX6_back_59 rfl ?_
          refine m_get_kp O hM fl_X6_83 dX6_back_60 ?_
          exact hE _ _ _ _ dX6_back_63 rfl (Or.inr ⟨by omega, rfl, _, fun y h0 h1 => hq y h0 (by omega), rfl⟩)
        · skip
          refine n_aload_n O dX6_back_28 rfl ?_
          refine m_get_ss O hM fl_X6_22 dX6_back_29 ?_
          refine n_iload_n O dX6_back_32 rfl ?_
          refine n_aload_n O dX6_back_33 rfl ?_
          refine m_get_im O hM fl_X6_28 dX6_back_34 ?_
          refine r_bipush O (by decide +kernel) dX6_back_37 ?_
          refine n_aload_n O dX6_back_39 rfl ?_
          refine m_get_kp O hM fl_X6_83 dX6_back_40 ?_
          refine r_imul O dX6_back_43 ?_
          refine n_iload_n O dX6_back_44 rfl ?_
          refine r_iadd O dX6_back_45 ?_
          refine m_ld_im O hM (by omega) (by omega) dX6_back_46 ?_
          refine m_st_ss O hM (by omega) (by omega) dX6_back_47 ?_
          refine n_iinc O dX6_back_48 (by decide) rfl rfl ?_
          refine r_goto (tgt := 22) O dX6_back_51 (by decide) ?_
          exact G_chk (ih22 _ (by omega) (i + 1) _ ⟨by omega, fun y h0 h1 => by by_cases e : y = i; (rw [e, uI_s]); (rw [uI_n _ _ e]; exact hq y h0 (by omega))⟩ rfl) (zsc rfl (zsc rfl zsn))
    exact G_chk (L22 _ 0 ss ⟨by omega, fun y h0 h1 => by omega⟩ rfl) (zsc rfl (zsc rfl zsn))
  · skip
    refine r_bipush O (by decide +kernel) dX6_back_7 ?_
    exact hE _ _ _ _ dX6_back_9 rfl (Or.inl ⟨by omega, rfl, rfl⟩)
set_option maxHeartbeats 4000000 in
theorem C_X6_count {K : zK} (hI : zInj K) (hM : kN K = 11) (tx : Int → Int) (ty : Int) (td dr bg ss pa : Int → Int) (kn : Int) (im : Int → Int) (kp : Int) (ns : Int → Int) (nd ap la : Int) (hh tt : Int → Int) (v : SV) (hv : okV v) (hr : mR td ss v) (w : Int) (bw : zB w)  : zCi K yX6_count cX6_count 2 (some .int) 1 [.ref (kad K 0), .int (iI w)] (layM K tx ty td dr bg ss pa kn im kp ns nd ap la hh tt) (fun z u => z = cntR v nd kn kp ty w ∧ u = (layM K tx ty td dr bg ss pa kn im kp ns nd ap la hh tt)) := by
  obtain ⟨hn7, ham, hhe, hsa, hro, hfa, hm⟩ := id hv
  obtain ⟨r1, r2, r3, r4, r5, r6, rm⟩ := id hr
  have hpw := pow_b (qn v).toNat (by omega)
  obtain ⟨bw1, bw2⟩ := id bw
  have shu := sum_hu hr (by omega)
  have sea := sum_ea hr (by omega)
  refine zCi_in hI (by decide +kernel) (Nat.le_of_ble_eq_true rfl) (fun X O hE => ?_)
  refine n_iload_n O dX6_count_0 rfl ?_
  have hsw : w < 0 ∨ 10 < w ∨ w = 0 ∨ w = 1 ∨ w = 2 ∨ w = 3 ∨ w = 4 ∨ w = 5 ∨ w = 6 ∨ w = 7 ∨ w = 8 ∨ w = 9 ∨ w = 10 := by omega
  rcases hsw with hsw | hsw | hsw | hsw | hsw | hsw | hsw | hsw | hsw | hsw | hsw | hsw | hsw
  · skip
    refine r_tabOut (tgt := 132) O ⟨by omega, by omega⟩ dX6_count_1 (Or.inl hsw) (by decide) ?_
    refine r_iconst O dX6_count_132 ?_
    exact hE _ _ _ _ dX6_count_133 rfl ⟨by unfold cntR; first | (rw [if_pos (by omega)]; first | done | omega | exact shu | exact sea) | (rw [if_neg (by omega), if_pos (by omega)]; first | done | omega | exact shu | exact sea) | (rw [if_neg (by omega), if_neg (by omega), if_pos (by omega)]; first | done | omega | exact shu | exact sea) | (rw [if_neg (by omega), if_neg (by omega), if_neg (by omega), if_pos (by omega)]; first | done | omega | exact shu | exact sea) | (rw [if_neg (by omega), if_neg (by omega), if_neg (by omega), if_neg (by omega), if_pos (by omega)]; first | done | omega | exact shu | exact sea) | (rw [if_neg (by omega), if_neg (by omega), if_neg (by omega), if_neg (by omega), if_neg (by omega), if_pos (by omega)]; first | done | omega | exact shu | exact sea) | (rw [if_neg (by omega), if_neg (by omega), if_neg (by omega), if_neg (by omega), if_neg (by omega), if_neg (by omega), if_pos (by omega)]; first | done | omega | exact shu | exact sea) | (rw [if_neg (by omega), if_neg (by omega), if_neg (by omega), if_neg (by omega), if_neg (by omega), if_neg (by omega), if_neg (by omega), if_pos (by omega)]; first | done | omega | exact shu | exact sea) | (rw [if_neg (by omega), if_neg (by omega), if_neg (by omega), if_neg (by omega), if_neg (by omega), if_neg (by omega), if_neg (by omega), if_neg (by omega), if_pos (by omega)]; first | done | omega | exact shu | exact sea) | (rw [if_neg (by omega), if_neg (by omega), if_neg (by omega), if_neg (by omega), if_neg (by omega), if_neg (by omega), if_neg (by omega), if_neg (by omega), if_neg (by omega), if_pos (by omega)]; first | done | omega | exact shu | exact sea) | (rw [if_neg (by omega), if_neg (by omega), if_neg (by omega), if_neg (by omega), if_neg (by omega), if_neg (by omega), if_neg (by omega), if_neg (by omega), if_neg (by omega), if_neg (by omega), if_pos (by omega)]; first | done | omega | exact shu | exact sea) | (rw [if_neg (by omega), if_neg (by omega), if_neg (by omega), if_neg (by omega), if_neg (by omega), if_neg (by omega), if_neg (by omega), if_neg (by omega), if_neg (by omega), if_neg (by omega), if_neg (by omega)]; done), rfl⟩
  · skip
    refine r_tabOut (tgt := 132) O ⟨by omega, by omega⟩ dX6_count_1 (Or.inr hsw) (by decide) ?_
    refine r_iconst O dX6_count_132 ?_
    exact hE _ _ _ _ dX6_count_133 rfl ⟨by unfold cntR; first | (rw [if_pos (by omega)]; first | done | omega | exact shu | exact sea) | (rw [if_neg (by omega), if_pos (by omega)]; first | done | omega | exact shu | exact sea) | (rw [if_neg (by omega), if_neg (by omega), if_pos (by omega)]; first | done | omega | exact shu | exact sea) | (rw [if_neg (by omega), if_neg (by omega), if_neg (by omega), if_pos (by omega)]; first | done | omega | exact shu | exact sea) | (rw [if_neg (by omega), if_neg (by omega), if_neg (by omega), if_neg (by omega), if_pos (by omega)]; first | done | omega | exact shu | exact sea) | (rw [if_neg (by omega), if_neg (by omega), if_neg (by omega), if_neg (by omega), if_neg (by omega), if_pos (by omega)]; first | done | omega | exact shu | exact sea) | (rw [if_neg (by omega), if_neg (by omega), if_neg (by omega), if_neg (by omega), if_neg (by omega), if_neg (by omega), if_pos (by omega)]; first | done | omega | exact shu | exact sea) | (rw [if_neg (by omega), if_neg (by omega), if_neg (by omega), if_neg (by omega), if_neg (by omega), if_neg (by omega), if_neg (by omega), if_pos (by omega)]; first | done | omega | exact shu | exact sea) | (rw [if_neg (by omega), if_neg (by omega), if_neg (by omega), if_neg (by omega), if_neg (by omega), if_neg (by omega), if_neg (by omega), if_neg (by omega), if_pos (by omega)]; first | done | omega | exact shu | exact sea) | (rw [if_neg (by omega), if_neg (by omega), if_neg (by omega), if_neg (by omega), if_neg (by omega), if_neg (by omega), if_neg (by omega), if_neg (by omega), if_neg (by omega), if_pos (by omega)]; first | done | omega | exact shu | exact sea) | (rw [if_neg (by omega), if_neg (by omega), if_neg (by omega), if_neg (by omega), if_neg (by omega), if_neg (by omega), if_neg (by omega), if_neg (by omega), if_neg (by omega), if_neg (by omega), if_pos (by omega)]; first | done | omega | exact shu | exact sea) | (rw [if_neg (by omega), if_neg (by omega), if_neg (by omega), if_neg (by omega), if_neg (by omega), if_neg (by omega), if_neg (by omega), if_neg (by omega), if_neg (by omega), if_neg (by omega), if_neg (by omega)]; done), rfl⟩
  · skip
    refine r_tabIn (off := 59) (tgt := 60) O ⟨by omega, by omega⟩ dX6_count_1 (by omega) (by omega) (by rw [hsw]; rfl) (by decide) ?_
    refine n_aload_n O dX6_count_60 rfl ?_
    refine m_get_td O hM fl_X6_13 dX6_count_61 ?_
    refine r_iconst O dX6_count_64 ?_
    refine m_ld_td O hM (by omega) (by omega) dX6_count_65 ?_
    exact hE _ _ _ _ dX6_count_66 rfl ⟨by unfold cntR; first | (rw [if_pos (by omega)]; first | done | omega | exact shu | exact sea) | (rw [if_neg (by omega), if_pos (by omega)]; first | done | omega | exact shu | exact sea) | (rw [if_neg (by omega), if_neg (by omega), if_pos (by omega)]; first | done | omega | exact shu | exact sea) | (rw [if_neg (by omega), if_neg (by omega), if_neg (by omega), if_pos (by omega)]; first | done | omega | exact shu | exact sea) | (rw [if_neg (by omega), if_neg (by omega), if_neg (by omega), if_neg (by omega), if_pos (by omega)]; first | done | omega | exact shu | exact sea) | (rw [if_neg (by omega), if_neg (by omega), if_neg (by omega), if_neg (by omega), if_neg (by omega), if_pos (by omega)]; first | done | omega | exact shu | exact sea) | (rw [if_neg (by omega), if_neg (by omega), if_neg (by omega), if_neg (by omega), if_neg (by omega), if_neg (by omega), if_pos (by omega)]; first | done | omega | exact shu | exact sea) | (rw [if_neg (by omega), if_neg (by omega), if_neg (by omega), if_neg (by omega), if_neg (by omega), if_neg (by omega), if_neg (by omega), if_pos (by omega)]; first | done | omega | exact shu | exact sea) | (rw [if_neg (by omega), if_neg (by omega), if_neg (by omega), if_neg (by omega), if_neg (by omega), if_neg (by omega), if_neg (by omega), if_neg (by omega), if_pos (by omega)]; first | done | omega | exact shu | exact sea) | (rw [if_neg (by omega), if_neg (by omega), if_neg (by omega), if_neg (by omega), if_neg (by omega), if_neg (by omega), if_neg (by omega), if_neg (by omega), if_neg (by omega), if_pos (by omega)]; first | done | omega | exact shu | exact sea) | (rw [if_neg (by omega), if_neg (by omega), if_neg (by omega), if_neg (by omega), if_neg (by omega), if_neg (by omega), if_neg (by omega), if_neg (by omega), if_neg (by omega), if_neg (by omega), if_pos (by omega)]; first | done | omega | exact shu | exact sea) | (rw [if_neg (by omega), if_neg (by omega), if_neg (by omega), if_neg (by omega), if_neg (by omega), if_neg (by omega), if_neg (by omega), if_neg (by omega), if_neg (by omega), if_neg (by omega), if_neg (by omega)]; done), rfl⟩
  · skip
    refine r_tabIn (off := 66) (tgt := 67) O ⟨by omega, by omega⟩ dX6_count_1 (by omega) (by omega) (by rw [hsw]; rfl) (by decide) ?_
    refine n_aload_n O dX6_count_67 rfl ?_
    refine m_get_ss O hM fl_X6_22 dX6_count_68 ?_
    refine r_bipush O (by decide +kernel) dX6_count_71 ?_
    refine m_ld_ss O hM (by omega) (by omega) dX6_count_73 ?_
    exact hE _ _ _ _ dX6_count_74 rfl ⟨by unfold cntR; first | (rw [if_pos (by omega)]; first | done | omega | exact shu | exact sea) | (rw [if_neg (by omega), if_pos (by omega)]; first | done | omega | exact shu | exact sea) | (rw [if_neg (by omega), if_neg (by omega), if_pos (by omega)]; first | done | omega | exact shu | exact sea) | (rw [if_neg (by omega), if_neg (by omega), if_neg (by omega), if_pos (by omega)]; first | done | omega | exact shu | exact sea) | (rw [if_neg (by omega), if_neg (by omega), if_neg (by omega), if_neg (by omega), if_pos (by omega)]; first | done | omega | exact shu | exact sea) | (rw [if_neg (by omega), if_neg (by omega), if_neg (by omega), if_neg (by omega), if_neg (by omega), if_pos (by omega)]; first | done | omega | exact shu | exact sea) | (rw [if_neg (by omega), if_neg (by omega), if_neg (by omega), if_neg (by omega), if_neg (by omega), if_neg (by omega), if_pos (by omega)]; first | done | omega | exact shu | exact sea) | (rw [if_neg (by omega), if_neg (by omega), if_neg (by omega), if_neg (by omega), if_neg (by omega), if_neg (by omega), if_neg (by omega), if_pos (by omega)]; first | done | omega | exact shu | exact sea) | (rw [if_neg (by omega), if_neg (by omega), if_neg (by omega), if_neg (by omega), if_neg (by omega), if_neg (by omega), if_neg (by omega), if_neg (by omega), if_pos (by omega)]; first | done | omega | exact shu | exact sea) | (rw [if_neg (by omega), if_neg (by omega), if_neg (by omega), if_neg (by omega), if_neg (by omega), if_neg (by omega), if_neg (by omega), if_neg (by omega), if_neg (by omega), if_pos (by omega)]; first | done | omega | exact shu | exact sea) | (rw [if_neg (by omega), if_neg (by omega), if_neg (by omega), if_neg (by omega), if_neg (by omega), if_neg (by omega), if_neg (by omega), if_neg (by omega), if_neg (by omega), if_neg (by omega), if_pos (by omega)]; first | done | omega | exact shu | exact sea) | (rw [if_neg (by omega), if_neg (by omega), if_neg (by omega), if_neg (by omega), if_neg (by omega), if_neg (by omega), if_neg (by omega), if_neg (by omega), if_neg (by omega), if_neg (by omega), if_neg (by omega)]; done), rfl⟩
  · skip
    refine r_tabIn (off := 74) (tgt := 75) O ⟨by omega, by omega⟩ dX6_count_1 (by omega) (by omega) (by rw [hsw]; rfl) (by decide) ?_
    refine n_aload_n O dX6_count_75 rfl ?_
    refine m_get_ss O hM fl_X6_22 dX6_count_76 ?_
    refine r_bipush O (by decide +kernel) dX6_count_79 ?_
    refine m_ld_ss O hM (by omega) (by omega) dX6_count_81 ?_
    exact hE _ _ _ _ dX6_count_82 rfl ⟨by unfold cntR; first | (rw [if_pos (by omega)]; first | done | omega | exact shu | exact sea) | (rw [if_neg (by omega), if_pos (by omega)]; first | done | omega | exact shu | exact sea) | (rw [if_neg (by omega), if_neg (by omega), if_pos (by omega)]; first | done | omega | exact shu | exact sea) | (rw [if_neg (by omega), if_neg (by omega), if_neg (by omega), if_pos (by omega)]; first | done | omega | exact shu | exact sea) | (rw [if_neg (by omega), if_neg (by omega), if_neg (by omega), if_neg (by omega), if_pos (by omega)]; first | done | omega | exact shu | exact sea) | (rw [if_neg (by omega), if_neg (by omega), if_neg (by omega), if_neg (by omega), if_neg (by omega), if_pos (by omega)]; first | done | omega | exact shu | exact sea) | (rw [if_neg (by omega), if_neg (by omega), if_neg (by omega), if_neg (by omega), if_neg (by omega), if_neg (by omega), if_pos (by omega)]; first | done | omega | exact shu | exact sea) | (rw [if_neg (by omega), if_neg (by omega), if_neg (by omega), if_neg (by omega), if_neg (by omega), if_neg (by omega), if_neg (by omega), if_pos (by omega)]; first | done | omega | exact shu | exact sea) | (rw [if_neg (by omega), if_neg (by omega), if_neg (by omega), if_neg (by omega), if_neg (by omega), if_neg (by omega), if_neg (by omega), if_neg (by omega), if_pos (by omega)]; first | done | omega | exact shu | exact sea) | (rw [if_neg (by omega), if_neg (by omega), if_neg (by omega), if_neg (by omega), if_neg (by omega), if_neg (by omega), if_neg (by omega), if_neg (by omega), if_neg (by omega), if_pos (by omega)]; first | done | omega | exact shu | exact sea) | (rw [if_neg (by omega), if_neg (by omega), if_neg (by omega), if_neg (by omega), if_neg (by omega), if_neg (by omega), if_neg (by omega), if_neg (by omega), if_neg (by omega), if_neg (by omega), if_pos (by omega)]; first | done | omega | exact shu | exact sea) | (rw [if_neg (by omega), if_neg (by omega), if_neg (by omega), if_neg (by omega), if_neg (by omega), if_neg (by omega), if_neg (by omega), if_neg (by omega), if_neg (by omega), if_neg (by omega), if_neg (by omega)]; done), rfl⟩
  · skip
    refine r_tabIn (off := 82) (tgt := 83) O ⟨by omega, by omega⟩ dX6_count_1 (by omega) (by omega) (by rw [hsw]; rfl) (by decide) ?_
    refine n_aload_n O dX6_count_83 rfl ?_
    refine m_get_ss O hM fl_X6_22 dX6_count_84 ?_
    refine r_bipush O (by decide +kernel) dX6_count_87 ?_
    refine m_ld_ss O hM (by omega) (by omega) dX6_count_89 ?_
    exact hE _ _ _ _ dX6_count_90 rfl ⟨by unfold cntR; first | (rw [if_pos (by omega)]; first | done | omega | exact shu | exact sea) | (rw [if_neg (by omega), if_pos (by omega)]; first | done | omega | exact shu | exact sea) | (rw [if_neg (by omega), if_neg (by omega), if_pos (by omega)]; first | done | omega | exact shu | exact sea) | (rw [if_neg (by omega), if_neg (by omega), if_neg (by omega), if_pos (by omega)]; first | done | omega | exact shu | exact sea) | (rw [if_neg (by omega), if_neg (by omega), if_neg (by omega), if_neg (by omega), if_pos (by omega)]; first | done | omega | exact shu | exact sea) | (rw [if_neg (by omega), if_neg (by omega), if_neg (by omega), if_neg (by omega), if_neg (by omega), if_pos (by omega)]; first | done | omega | exact shu | exact sea) | (rw [if_neg (by omega), if_neg (by omega), if_neg (by omega), if_neg (by omega), if_neg (by omega), if_neg (by omega), if_pos (by omega)]; first | done | omega | exact shu | exact sea) | (rw [if_neg (by omega), if_neg (by omega), if_neg (by omega), if_neg (by omega), if_neg (by omega), if_neg (by omega), if_neg (by omega), if_pos (by omega)]; first | done | omega | exact shu | exact sea) | (rw [if_neg (by omega), if_neg (by omega), if_neg (by omega), if_neg (by omega), if_neg (by omega), if_neg (by omega), if_neg (by omega), if_neg (by omega), if_pos (by omega)]; first | done | omega | exact shu | exact sea) | (rw [if_neg (by omega), if_neg (by omega), if_neg (by omega), if_neg (by omega), if_neg (by omega), if_neg (by omega), if_neg (by omega), if_neg (by omega), if_neg (by omega), if_pos (by omega)]; first | done | omega | exact shu | exact sea) | (rw [if_neg (by omega), if_neg (by omega), if_neg (by omega), if_neg (by omega), if_neg (by omega), if_neg (by omega), if_neg (by omega), if_neg (by omega), if_neg (by omega), if_neg (by omega), if_pos (by omega)]; first | done | omega | exact shu | exact sea) | (rw [if_neg (by omega), if_neg (by omega), if_neg (by omega), if_neg (by omega), if_neg (by omega), if_neg (by omega), if_neg (by omega), if_neg (by omega), if_neg (by omega), if_neg (by omega), if_neg (by omega)]; done), rfl⟩
  · skip
    refine r_tabIn (off := 90) (tgt := 91) O ⟨by omega, by omega⟩ dX6_count_1 (by omega) (by omega) (by rw [hsw]; rfl) (by decide) ?_
    refine n_aload_n O dX6_count_91 rfl ?_
    refine m_get_td O hM fl_X6_13 dX6_count_92 ?_
    refine r_iconst O dX6_count_95 ?_
    refine m_ld_td O hM (by omega) (by omega) dX6_count_96 ?_
    exact hE _ _ _ _ dX6_count_97 rfl ⟨by unfold cntR; first | (rw [if_pos (by omega)]; first | done | omega | exact shu | exact sea) | (rw [if_neg (by omega), if_pos (by omega)]; first | done | omega | exact shu | exact sea) | (rw [if_neg (by omega), if_neg (by omega), if_pos (by omega)]; first | done | omega | exact shu | exact sea) | (rw [if_neg (by omega), if_neg (by omega), if_neg (by omega), if_pos (by omega)]; first | done | omega | exact shu | exact sea) | (rw [if_neg (by omega), if_neg (by omega), if_neg (by omega), if_neg (by omega), if_pos (by omega)]; first | done | omega | exact shu | exact sea) | (rw [if_neg (by omega), if_neg (by omega), if_neg (by omega), if_neg (by omega), if_neg (by omega), if_pos (by omega)]; first | done | omega | exact shu | exact sea) | (rw [if_neg (by omega), if_neg (by omega), if_neg (by omega), if_neg (by omega), if_neg (by omega), if_neg (by omega), if_pos (by omega)]; first | done | omega | exact shu | exact sea) | (rw [if_neg (by omega), if_neg (by omega), if_neg (by omega), if_neg (by omega), if_neg (by omega), if_neg (by omega), if_neg (by omega), if_pos (by omega)]; first | done | omega | exact shu | exact sea) | (rw [if_neg (by omega), if_neg (by omega), if_neg (by omega), if_neg (by omega), if_neg (by omega), if_neg (by omega), if_neg (by omega), if_neg (by omega), if_pos (by omega)]; first | done | omega | exact shu | exact sea) | (rw [if_neg (by omega), if_neg (by omega), if_neg (by omega), if_neg (by omega), if_neg (by omega), if_neg (by omega), if_neg (by omega), if_neg (by omega), if_neg (by omega), if_pos (by omega)]; first | done | omega | exact shu | exact sea) | (rw [if_neg (by omega), if_neg (by omega), if_neg (by omega), if_neg (by omega), if_neg (by omega), if_neg (by omega), if_neg (by omega), if_neg (by omega), if_neg (by omega), if_neg (by omega), if_pos (by omega)]; first | done | omega | exact shu | exact sea) | (rw [if_neg (by omega), if_neg (by omega), if_neg (by omega), if_neg (by omega), if_neg (by omega), if_neg (by omega), if_neg (by omega), if_neg (by omega), if_neg (by omega), if_neg (by omega), if_neg (by omega)]; done), rfl⟩
  · skip
    refine r_tabIn (off := 97) (tgt := 98) O ⟨by omega, by omega⟩ dX6_count_1 (by omega) (by omega) (by rw [hsw]; rfl) (by decide) ?_
    refine n_aload_n O dX6_count_98 rfl ?_
    refine r_bipush O (by decide +kernel) dX6_count_99 ?_
    refine r_callV1i O (C_X6_sumOf hI hM _ _ _ _ _ _ _ _ _ _ _ _ _ _ _ _ (qn v).toNat (by omega) (by omega) 14 (by omega)) q_X6_121 (by rw [hM]; decide) (fs := _) rfl rfl rfl (by decide) (by decide) (Nat.le_of_ble_eq_true rfl) dX6_count_101 (fun zz101 zu101 hz101 => ?_)
    obtain ⟨rfl, rfl⟩ := hz101
    exact hE _ _ _ _ dX6_count_104 rfl ⟨by unfold cntR; first | (rw [if_pos (by omega)]; first | done | omega | exact shu | exact sea) | (rw [if_neg (by omega), if_pos (by omega)]; first | done | omega | exact shu | exact sea) | (rw [if_neg (by omega), if_neg (by omega), if_pos (by omega)]; first | done | omega | exact shu | exact sea) | (rw [if_neg (by omega), if_neg (by omega), if_neg (by omega), if_pos (by omega)]; first | done | omega | exact shu | exact sea) | (rw [if_neg (by omega), if_neg (by omega), if_neg (by omega), if_neg (by omega), if_pos (by omega)]; first | done | omega | exact shu | exact sea) | (rw [if_neg (by omega), if_neg (by omega), if_neg (by omega), if_neg (by omega), if_neg (by omega), if_pos (by omega)]; first | done | omega | exact shu | exact sea) | (rw [if_neg (by omega), if_neg (by omega), if_neg (by omega), if_neg (by omega), if_neg (by omega), if_neg (by omega), if_pos (by omega)]; first | done | omega | exact shu | exact sea) | (rw [if_neg (by omega), if_neg (by omega), if_neg (by omega), if_neg (by omega), if_neg (by omega), if_neg (by omega), if_neg (by omega), if_pos (by omega)]; first | done | omega | exact shu | exact sea) | (rw [if_neg (by omega), if_neg (by omega), if_neg (by omega), if_neg (by omega), if_neg (by omega), if_neg (by omega), if_neg (by omega), if_neg (by omega), if_pos (by omega)]; first | done | omega | exact shu | exact sea) | (rw [if_neg (by omega), if_neg (by omega), if_neg (by omega), if_neg (by omega), if_neg (by omega), if_neg (by omega), if_neg (by omega), if_neg (by omega), if_neg (by omega), if_pos (by omega)]; first | done | omega | exact shu | exact sea) | (rw [if_neg (by omega), if_neg (by omega), if_neg (by omega), if_neg (by omega), if_neg (by omega), if_neg (by omega), if_neg (by omega), if_neg (by omega), if_neg (by omega), if_neg (by omega), if_pos (by omega)]; first | done | omega | exact shu | exact sea) | (rw [if_neg (by omega), if_neg (by omega), if_neg (by omega), if_neg (by omega), if_neg (by omega), if_neg (by omega), if_neg (by omega), if_neg (by omega), if_neg (by omega), if_neg (by omega), if_neg (by omega)]; done), rfl⟩
  · skip
    refine r_tabIn (off := 104) (tgt := 105) O ⟨by omega, by omega⟩ dX6_count_1 (by omega) (by omega) (by rw [hsw]; rfl) (by decide) ?_
    refine n_aload_n O dX6_count_105 rfl ?_
    refine r_bipush O (by decide +kernel) dX6_count_106 ?_
    refine r_callV1i O (C_X6_sumOf hI hM _ _ _ _ _ _ _ _ _ _ _ _ _ _ _ _ (qn v).toNat (by omega) (by omega) 21 (by omega)) q_X6_121 (by rw [hM]; decide) (fs := _) rfl rfl rfl (by decide) (by decide) (Nat.le_of_ble_eq_true rfl) dX6_count_108 (fun zz108 zu108 hz108 => ?_)
    obtain ⟨rfl, rfl⟩ := hz108
    exact hE _ _ _ _ dX6_count_111 rfl ⟨by unfold cntR; first | (rw [if_pos (by omega)]; first | done | omega | exact shu | exact sea) | (rw [if_neg (by omega), if_pos (by omega)]; first | done | omega | exact shu | exact sea) | (rw [if_neg (by omega), if_neg (by omega), if_pos (by omega)]; first | done | omega | exact shu | exact sea) | (rw [if_neg (by omega), if_neg (by omega), if_neg (by omega), if_pos (by omega)]; first | done | omega | exact shu | exact sea) | (rw [if_neg (by omega), if_neg (by omega), if_neg (by omega), if_neg (by omega), if_pos (by omega)]; first | done | omega | exact shu | exact sea) | (rw [if_neg (by omega), if_neg (by omega), if_neg (by omega), if_neg (by omega), if_neg (by omega), if_pos (by omega)]; first | done | omega | exact shu | exact sea) | (rw [if_neg (by omega), if_neg (by omega), if_neg (by omega), if_neg (by omega), if_neg (by omega), if_neg (by omega), if_pos (by omega)]; first | done | omega | exact shu | exact sea) | (rw [if_neg (by omega), if_neg (by omega), if_neg (by omega), if_neg (by omega), if_neg (by omega), if_neg (by omega), if_neg (by omega), if_pos (by omega)]; first | done | omega | exact shu | exact sea) | (rw [if_neg (by omega), if_neg (by omega), if_neg (by omega), if_neg (by omega), if_neg (by omega), if_neg (by omega), if_neg (by omega), if_neg (by omega), if_pos (by omega)]; first | done | omega | exact shu | exact sea) | (rw [if_neg (by omega), if_neg (by omega), if_neg (by omega), if_neg (by omega), if_neg (by omega), if_neg (by omega), if_neg (by omega), if_neg (by omega), if_neg (by omega), if_pos (by omega)]; first | done | omega | exact shu | exact sea) | (rw [if_neg (by omega), if_neg (by omega), if_neg (by omega), if_neg (by omega), if_neg (by omega), if_neg (by omega), if_neg (by omega), if_neg (by omega), if_neg (by omega), if_neg (by omega), if_pos (by omega)]; first | done | omega | exact shu | exact sea) | (rw [if_neg (by omega), if_neg (by omega), if_neg (by omega), if_neg (by omega), if_neg (by omega), if_neg (by omega), if_neg (by omega), if_neg (by omega), if_neg (by omega), if_neg (by omega), if_neg (by omega)]; done), rfl⟩
  · skip
    refine r_tabIn (off := 111) (tgt := 112) O ⟨by omega, by omega⟩ dX6_count_1 (by omega) (by omega) (by rw [hsw]; rfl) (by decide) ?_
    refine n_aload_n O dX6_count_112 rfl ?_
    refine m_get_nd O hM fl_X6_86 dX6_count_113 ?_
    exact hE _ _ _ _ dX6_count_116 rfl ⟨by unfold cntR; first | (rw [if_pos (by omega)]; first | done | omega | exact shu | exact sea) | (rw [if_neg (by omega), if_pos (by omega)]; first | done | omega | exact shu | exact sea) | (rw [if_neg (by omega), if_neg (by omega), if_pos (by omega)]; first | done | omega | exact shu | exact sea) | (rw [if_neg (by omega), if_neg (by omega), if_neg (by omega), if_pos (by omega)]; first | done | omega | exact shu | exact sea) | (rw [if_neg (by omega), if_neg (by omega), if_neg (by omega), if_neg (by omega), if_pos (by omega)]; first | done | omega | exact shu | exact sea) | (rw [if_neg (by omega), if_neg (by omega), if_neg (by omega), if_neg (by omega), if_neg (by omega), if_pos (by omega)]; first | done | omega | exact shu | exact sea) | (rw [if_neg (by omega), if_neg (by omega), if_neg (by omega), if_neg (by omega), if_neg (by omega), if_neg (by omega), if_pos (by omega)]; first | done | omega | exact shu | exact sea) | (rw [if_neg (by omega), if_neg (by omega), if_neg (by omega), if_neg (by omega), if_neg (by omega), if_neg (by omega), if_neg (by omega), if_pos (by omega)]; first | done | omega | exact shu | exact sea) | (rw [if_neg (by omega), if_neg (by omega), if_neg (by omega), if_neg (by omega), if_neg (by omega), if_neg (by omega), if_neg (by omega), if_neg (by omega), if_pos (by omega)]; first | done | omega | exact shu | exact sea) | (rw [if_neg (by omega), if_neg (by omega), if_neg (by omega), if_neg (by omega), if_neg (by omega), if_neg (by omega), if_neg (by omega), if_neg (by omega), if_neg (by omega), if_pos (by omega)]; first | done | omega | exact shu | exact sea) | (rw [if_neg (by omega), if_neg (by omega), if_neg (by omega), if_neg (by omega), if_neg (by omega), if_neg (by omega), if_neg (by omega), if_neg (by omega), if_neg (by omega), if_neg (by omega), if_pos (by omega)]; first | done | omega | exact shu | exact sea) | (rw [if_neg (by omega), if_neg (by omega), if_neg (by omega), if_neg (by omega), if_neg (by omega), if_neg (by omega), if_neg (by omega), if_neg (by omega), if_neg (by omega), if_neg (by omega), if_neg (by omega)]; done), rfl⟩
  · skip
    refine r_tabIn (off := 116) (tgt := 117) O ⟨by omega, by omega⟩ dX6_count_1 (by omega) (by omega) (by rw [hsw]; rfl) (by decide) ?_
    refine n_aload_n O dX6_count_117 rfl ?_
    refine m_get_kn O hM fl_X6_80 dX6_count_118 ?_
    exact hE _ _ _ _ dX6_count_121 rfl ⟨by unfold cntR; first | (rw [if_pos (by omega)]; first | done | omega | exact shu | exact sea) | (rw [if_neg (by omega), if_pos (by omega)]; first | done | omega | exact shu | exact sea) | (rw [if_neg (by omega), if_neg (by omega), if_pos (by omega)]; first | done | omega | exact shu | exact sea) | (rw [if_neg (by omega), if_neg (by omega), if_neg (by omega), if_pos (by omega)]; first | done | omega | exact shu | exact sea) | (rw [if_neg (by omega), if_neg (by omega), if_neg (by omega), if_neg (by omega), if_pos (by omega)]; first | done | omega | exact shu | exact sea) | (rw [if_neg (by omega), if_neg (by omega), if_neg (by omega), if_neg (by omega), if_neg (by omega), if_pos (by omega)]; first | done | omega | exact shu | exact sea) | (rw [if_neg (by omega), if_neg (by omega), if_neg (by omega), if_neg (by omega), if_neg (by omega), if_neg (by omega), if_pos (by omega)]; first | done | omega | exact shu | exact sea) | (rw [if_neg (by omega), if_neg (by omega), if_neg (by omega), if_neg (by omega), if_neg (by omega), if_neg (by omega), if_neg (by omega), if_pos (by omega)]; first | done | omega | exact shu | exact sea) | (rw [if_neg (by omega), if_neg (by omega), if_neg (by omega), if_neg (by omega), if_neg (by omega), if_neg (by omega), if_neg (by omega), if_neg (by omega), if_pos (by omega)]; first | done | omega | exact shu | exact sea) | (rw [if_neg (by omega), if_neg (by omega), if_neg (by omega), if_neg (by omega), if_neg (by omega), if_neg (by omega), if_neg (by omega), if_neg (by omega), if_neg (by omega), if_pos (by omega)]; first | done | omega | exact shu | exact sea) | (rw [if_neg (by omega), if_neg (by omega), if_neg (by omega), if_neg (by omega), if_neg (by omega), if_neg (by omega), if_neg (by omega), if_neg (by omega), if_neg (by omega), if_neg (by omega), if_pos (by omega)]; first | done | omega | exact shu | exact sea) | (rw [if_neg (by omega), if_neg (by omega), if_neg (by omega), if_neg (by omega), if_neg (by omega), if_neg (by omega), if_neg (by omega), if_neg (by omega), if_neg (by omega), if_neg (by omega), if_neg (by omega)]; done), rfl⟩
  · skip
    refine r_tabIn (off := 121) (tgt := 122) O ⟨by omega, by omega⟩ dX6_count_1 (by omega) (by omega) (by rw [hsw]; rfl) (by decide) ?_
    refine n_aload_n O dX6_count_122 rfl ?_
    refine m_get_kp O hM fl_X6_83 dX6_count_123 ?_
    exact hE _ _ _ _ dX6_count_126 rfl ⟨by unfold cntR; first | (rw [if_pos (by omega)]; first | done | omega | exact shu | exact sea) | (rw [if_neg (by omega), if_pos (by omega)]; first | done | omega | exact shu | exact sea) | (rw [if_neg (by omega), if_neg (by omega), if_pos (by omega)]; first | done | omega | exact shu | exact sea) | (rw [if_neg (by omega), if_neg (by omega), if_neg (by omega), if_pos (by omega)]; first | done | omega | exact shu | exact sea) | (rw [if_neg (by omega), if_neg (by omega), if_neg (by omega), if_neg (by omega), if_pos (by omega)]; first | done | omega | exact shu | exact sea) | (rw [if_neg (by omega), if_neg (by omega), if_neg (by omega), if_neg (by omega), if_neg (by omega), if_pos (by omega)]; first | done | omega | exact shu | exact sea) | (rw [if_neg (by omega), if_neg (by omega), if_neg (by omega), if_neg (by omega), if_neg (by omega), if_neg (by omega), if_pos (by omega)]; first | done | omega | exact shu | exact sea) | (rw [if_neg (by omega), if_neg (by omega), if_neg (by omega), if_neg (by omega), if_neg (by omega), if_neg (by omega), if_neg (by omega), if_pos (by omega)]; first | done | omega | exact shu | exact sea) | (rw [if_neg (by omega), if_neg (by omega), if_neg (by omega), if_neg (by omega), if_neg (by omega), if_neg (by omega), if_neg (by omega), if_neg (by omega), if_pos (by omega)]; first | done | omega | exact shu | exact sea) | (rw [if_neg (by omega), if_neg (by omega), if_neg (by omega), if_neg (by omega), if_neg (by omega), if_neg (by omega), if_neg (by omega), if_neg (by omega), if_neg (by omega), if_pos (by omega)]; first | done | omega | exact shu | exact sea) | (rw [if_neg (by omega), if_neg (by omega), if_neg (by omega), if_neg (by omega), if_neg (by omega), if_neg (by omega), if_neg (by omega), if_neg (by omega), if_neg (by omega), if_neg (by omega), if_pos (by omega)]; first | done | omega | exact shu | exact sea) | (rw [if_neg (by omega), if_neg (by omega), if_neg (by omega), if_neg (by omega), if_neg (by omega), if_neg (by omega), if_neg (by omega), if_neg (by omega), if_neg (by omega), if_neg (by omega), if_neg (by omega)]; done), rfl⟩
  · skip
    refine r_tabIn (off := 126) (tgt := 127) O ⟨by omega, by omega⟩ dX6_count_1 (by omega) (by omega) (by rw [hsw]; rfl) (by decide) ?_
    refine n_aload_n O dX6_count_127 rfl ?_
    refine m_get_ty O hM fl_X6_54 dX6_count_128 ?_
    exact hE _ _ _ _ dX6_count_131 rfl ⟨by unfold cntR; first | (rw [if_pos (by omega)]; first | done | omega | exact shu | exact sea) | (rw [if_neg (by omega), if_pos (by omega)]; first | done | omega | exact shu | exact sea) | (rw [if_neg (by omega), if_neg (by omega), if_pos (by omega)]; first | done | omega | exact shu | exact sea) | (rw [if_neg (by omega), if_neg (by omega), if_neg (by omega), if_pos (by omega)]; first | done | omega | exact shu | exact sea) | (rw [if_neg (by omega), if_neg (by omega), if_neg (by omega), if_neg (by omega), if_pos (by omega)]; first | done | omega | exact shu | exact sea) | (rw [if_neg (by omega), if_neg (by omega), if_neg (by omega), if_neg (by omega), if_neg (by omega), if_pos (by omega)]; first | done | omega | exact shu | exact sea) | (rw [if_neg (by omega), if_neg (by omega), if_neg (by omega), if_neg (by omega), if_neg (by omega), if_neg (by omega), if_pos (by omega)]; first | done | omega | exact shu | exact sea) | (rw [if_neg (by omega), if_neg (by omega), if_neg (by omega), if_neg (by omega), if_neg (by omega), if_neg (by omega), if_neg (by omega), if_pos (by omega)]; first | done | omega | exact shu | exact sea) | (rw [if_neg (by omega), if_neg (by omega), if_neg (by omega), if_neg (by omega), if_neg (by omega), if_neg (by omega), if_neg (by omega), if_neg (by omega), if_pos (by omega)]; first | done | omega | exact shu | exact sea) | (rw [if_neg (by omega), if_neg (by omega), if_neg (by omega), if_neg (by omega), if_neg (by omega), if_neg (by omega), if_neg (by omega), if_neg (by omega), if_neg (by omega), if_pos (by omega)]; first | done | omega | exact shu | exact sea) | (rw [if_neg (by omega), if_neg (by omega), if_neg (by omega), if_neg (by omega), if_neg (by omega), if_neg (by omega), if_neg (by omega), if_neg (by omega), if_neg (by omega), if_neg (by omega), if_pos (by omega)]; first | done | omega | exact shu | exact sea) | (rw [if_neg (by omega), if_neg (by omega), if_neg (by omega), if_neg (by omega), if_neg (by omega), if_neg (by omega), if_neg (by omega), if_neg (by omega), if_neg (by omega), if_neg (by omega), if_neg (by omega)]; done), rfl⟩
set_option maxHeartbeats 4000000 in
theorem C_X6_may {K : zK} (hI : zInj K) (hM : kN K = 11) (tx : Int → Int) (ty : Int) (td dr bg ss pa : Int → Int) (kn : Int) (im : Int → Int) (kp : Int) (ns : Int → Int) (nd ap la : Int) (hh tt : Int → Int) (v : SV) (hv : okV v) (hr : mR td ss v) (hns : okNs ns nd (qn v)) (w : Int) (bw : zB w)  : zCi K yX6_may cX6_may 7 (some .int) 2 [.ref (kad K 0), .int (iI w)] (layM K tx ty td dr bg ss pa kn im kp ns nd ap la hh tt) (fun z u => ((w < 0 ∨ 1 < w) ∧ z = -1 ∧ u = (layM K tx ty td dr bg ss pa kn im kp ns nd ap la hh tt)) ∨ ((0 ≤ w ∧ w ≤ 1) ∧ z = ((mayN v (whR ns) (muR ns) nd.toNat w 10 : Nat) : Int) ∧ ∃ (s2 h2 t2 : Int → Int) (w2 : Int), mR td s2 v ∧ u = (layM K tx ty td dr bg s2 pa kn im kp ns nd ap w2 h2 t2))) := by
  obtain ⟨hn7, ham, hhe, hsa, hro, hfa, hm⟩ := id hv
  obtain ⟨r1, r2, r3, r4, r5, r6, rm⟩ := id hr
  have hpw := pow_b (qn v).toNat (by omega)
  obtain ⟨bw1, bw2⟩ := id bw
  have hnd := hns.1
  refine zCi_in hI (by decide +kernel) (Nat.le_of_ble_eq_true rfl) (fun X O hE => ?_)
  refine n_iload_n O dX6_may_0 rfl ?_
  refine r_iconst O dX6_may_1 ?_
  refine r_iconst O dX6_may_2 ?_
  refine r_callS3i O (C_X6_in hI _ _ _ _ ⟨by omega, by omega⟩ ⟨by omega, by omega⟩ ⟨by omega, by omega⟩) q_X6_50 (by decide) (by decide) (Nat.le_of_ble_eq_true rfl) dX6_may_3 (fun zz3 zu3 hz3 => ?_)
  obtain ⟨hzi3, rfl⟩ := hz3
  have hic3 := inI_c hzi3
  refine r_if_ne (tgt := 11) O ⟨by omega, by omega⟩ dX6_may_6 (by decide) (fun hc6 => ?_) (fun hc6 => ?_)
  · skip
    refine n_aload_n O dX6_may_11 rfl ?_
    refine r_callV0v O (C_X6_holds hI hM _ _ _ _ _ _ _ _ _ _ _ _ _ _ _ _ ) q_X6_127 (by rw [hM]; decide) (fs := _) rfl rfl rfl (by decide) (by decide) (Nat.le_of_ble_eq_true rfl) dX6_may_12 (fun zu12 hz12 => ?_)
    obtain ⟨h2, hh2, rfl⟩ := hz12
    refine r_iconst O dX6_may_15 ?_
    refine n_istore_n O dX6_may_16 (by decide) rfl ?_
    refine r_iconst O dX6_may_17 ?_
    refine n_istore_n O dX6_may_18 (by decide) rfl ?_
    have L19 : ∀ (zk : Nat) (x b : Nat) (s1 : Int → Int) (lb : Int), (x ≤ 10 ∧ b = mayN v (whR ns) (muR ns) nd.toNat w x ∧ mR td s1 v) → 10 - x = zk → G K X 7 19 [(0, .ref (kad K 0)), (1, .int (iI w)), (2, .int (iI (b : Int))), (3, .int (iI (x : Int)))] [] (layM K tx ty td dr bg s1 pa kn im kp ns nd ap lb h2 tt) := by
      intro zk
      induction zk using Nat.strongRecOn with
      | ind zk ih19 =>
        intro x b s1 lb hinv hk
        obtain ⟨hx, hb, hmd⟩ := hinv
        refine n_iload_n O dX6_may_19 rfl ?_
        refine r_bipush O (by decide +kernel) dX6_may_20 ?_
        refine r_icmp_ge (tgt := 155) O ⟨by omega, by omega⟩ ⟨by omega, by omega⟩ dX6_may_22 (by decide) (fun hc22 => ?_) (fun hc22 => ?_)
        · skip
          refine n_iload_n O dX6_may_155 rfl ?_
          exact hE _ _ _ _ dX6_may_156 rfl (Or.inr ⟨by omega, by (have e : x = 10 := by omega); rw [hb, e], _, _, _, _, hmd, rfl⟩)
        · skip
          refine n_aload_n O dX6_may_25 rfl ?_
          refine m_get_ss O hM fl_X6_22 dX6_may_26 ?_
          refine n_iload_n O dX6_may_29 rfl ?_
          refine r_if_ne (tgt := 38) O ⟨by omega, by omega⟩ dX6_may_30 (by decide) (fun hc30 => ?_) (fun hc30 => ?_)
          · skip
            refine r_bipush O (by decide +kernel) dX6_may_38 ?_
            refine n_iload_n O dX6_may_40 rfl ?_
            refine m_st_ss O hM (by omega) (by omega) dX6_may_41 ?_
            refine n_aload_n O dX6_may_42 rfl ?_
            refine n_aload_n O dX6_may_43 rfl ?_
            refine r_callV0i O (C_X6_all hI hM _ _ _ _ _ _ _ _ _ _ _ _ _ _ _ _ (qn v).toNat (by omega) (by omega)) q_X6_104 (by rw [hM]; decide) (fs := _) rfl rfl rfl (by decide) (by decide) (Nat.le_of_ble_eq_true rfl) dX6_may_44 (fun zz44 zu44 hz44 => ?_)
            obtain ⟨rfl, rfl⟩ := hz44
            refine r_callV1i O (C_X6_eats hI hM _ _ _ _ _ _ _ _ _ _ _ _ _ _ _ _ (mayV v w (x : Int)) (okV_mayV hv (by omega) (by omega) w) (by first | exact (mR_may hmd (by omega) (w := w) (x : Int)).1 (by omega) | exact (mR_may hmd (by omega) (w := w) (x : Int)).2 (by omega)) (2 ^ (qn v).toNat - 1) (by omega)) q_X6_107 (by rw [hM]; decide) (fs := _) rfl rfl rfl (by decide) (by decide) (Nat.le_of_ble_eq_true rfl) dX6_may_47 (fun zz47 zu47 hz47 => ?_)
            obtain ⟨_, s3, hq3, rfl⟩ := hz47
            have hra : roundQ (mayV v w (x : Int)) (2 ^ (qn v).toNat - 1) = (roundV (mayV v w (x : Int))).1 := by have e := roundQ_all (okV_mayV hv (x := (x : Int)) (by omega) (by omega) w); rw [(mayV_ea _ _ _).2] at e; exact e
            rw [hra] at hq3
            refine r_pop O rfl dX6_may_50 ?_
            refine r_iconst O dX6_may_51 ?_
            refine n_istore O dX6_may_52 (by decide) rfl ?_
            refine r_iconst O dX6_may_54 ?_
            refine n_istore O dX6_may_55 (by decide) rfl ?_
            have L57 : ∀ (zk : Nat) (k : Nat) (f : Int), ((k : Int) ≤ nd ∧ f = soN v (roundV (mayV v w (x : Int))).1 (whR ns) (muR ns) k) → 6 - k = zk → G K X 7 57 [(0, .ref (kad K 0)), (1, .int (iI w)), (2, .int (iI (b : Int))), (3, .int (iI (x : Int))), (4, .int (iI f)), (5, .int (iI (k : Int)))] [] (layM K tx ty td dr bg s3 pa kn im kp ns nd ap ((eatQ (mayV v w (x : Int)) (2 ^ (qn v).toNat - 1) (qn (mayV v w (x : Int))).toNat).2.2) h2 tt) := by
              intro zk
              induction zk using Nat.strongRecOn with
              | ind zk ih57 =>
                intro k f hinv hk
                obtain ⟨hk, hf⟩ := hinv
                have hf01 := soN_01 v (roundV (mayV v w (x : Int))).1 (whR ns) (muR ns) k
                refine n_iload O dX6_may_57 rfl ?_
                refine n_aload_n O dX6_may_59 rfl ?_
                refine m_get_nd O hM fl_X6_86 dX6_may_60 ?_
                refine r_icmp_ge (tgt := 130) O ⟨by omega, by omega⟩ ⟨by omega, by omega⟩ dX6_may_63 (by decide) (fun hc63 => ?_) (fun hc63 => ?_)
                · skip
                  have ekn : k = nd.toNat := by omega
                  rw [ekn] at hf hf01
                  refine n_iload_n O dX6_may_130 rfl ?_
                  refine n_iload O dX6_may_131 rfl ?_
                  refine r_if_eq (tgt := 142) O ⟨by omega, by omega⟩ dX6_may_133 (by decide) (fun hc133 => ?_) (fun hc133 => ?_)
                  · skip
                    refine r_iconst O dX6_may_142 ?_
                    refine r_ior O (by first | exact iI_or _ _ | exact iI_or b 0) dX6_may_143 ?_
                    refine n_istore_n O dX6_may_144 (by decide) rfl ?_
                    refine n_aload_n O dX6_may_145 rfl ?_
                    refine r_callV0v O (C_X6_lets hI hM _ _ _ _ _ _ _ _ _ _ _ _ _ _ _ _ ) q_X6_130 (by rw [hM]; decide) (fs := _) rfl rfl rfl (by decide) (by decide) (Nat.le_of_ble_eq_true rfl) dX6_may_146 (fun zu146 hz146 => ?_)
                    obtain ⟨s5, hs5, rfl⟩ := hz146
                    have hr5 := mR_31 hr (by omega) (fun y h0 h1 => (hs5 y h0 h1).trans (hh2 y h0 h1))
                    refine n_iinc O dX6_may_149 (by decide) rfl rfl ?_
                    refine r_goto (tgt := 19) O dX6_may_152 (by decide) ?_
                    exact G_chk (ih19 _ (by omega) (x + 1) _ _ _ ⟨by omega, mayN_st _ _ _ _ _ _ (by first | exact Or.inr ⟨by first | exact hb | (rw [Nat.or_zero]; exact hb), by omega⟩ | exact Or.inl ⟨by rw [hb], by omega⟩), hr5⟩ rfl) (zsc rfl (zsc rfl (zsc rfl (zsc rfl zsn))))
                  · skip
                    refine r_iconst O dX6_may_136 ?_
                    refine n_iload_n O dX6_may_137 rfl ?_
                    refine r_ishl O (bit_shl31 (by omega)) dX6_may_138 ?_
                    refine r_goto (tgt := 143) O dX6_may_139 (by decide) ?_
                    refine r_ior O (by first | exact iI_or _ _ | exact iI_or b 0) dX6_may_143 ?_
                    refine n_istore_n O dX6_may_144 (by decide) rfl ?_
                    refine n_aload_n O dX6_may_145 rfl ?_
                    refine r_callV0v O (C_X6_lets hI hM _ _ _ _ _ _ _ _ _ _ _ _ _ _ _ _ ) q_X6_130 (by rw [hM]; decide) (fs := _) rfl rfl rfl (by decide) (by decide) (Nat.le_of_ble_eq_true rfl) dX6_may_146 (fun zu146 hz146 => ?_)
                    obtain ⟨s5, hs5, rfl⟩ := hz146
                    have hr5 := mR_31 hr (by omega) (fun y h0 h1 => (hs5 y h0 h1).trans (hh2 y h0 h1))
                    refine n_iinc O dX6_may_149 (by decide) rfl rfl ?_
                    refine r_goto (tgt := 19) O dX6_may_152 (by decide) ?_
                    exact G_chk (ih19 _ (by omega) (x + 1) _ _ _ ⟨by omega, mayN_st _ _ _ _ _ _ (by first | exact Or.inr ⟨by first | exact hb | (rw [Nat.or_zero]; exact hb), by omega⟩ | exact Or.inl ⟨by rw [hb], by omega⟩), hr5⟩ rfl) (zsc rfl (zsc rfl (zsc rfl (zsc rfl zsn))))
                · skip
                  have hnk := hns.2 (k : Int) (by omega) (by omega)
                  have hwk : whR ns (k : Int) = ns (k : Int) / 20 := rfl
                  have hmk : muR ns (k : Int) = ns (k : Int) % 20 := rfl
                  have hw0 : 0 ≤ ns (k : Int) / 20 := by omega
                  have hw1 : ns (k : Int) / 20 < qn v := by omega
                  have e3 : s3 (21 + ns (k : Int) / 20) = qea (roundV (mayV v w (x : Int))).1 (whR ns (k : Int)) := (hq3.2.2.2.2.2.2 (ns (k : Int) / 20) hw0 (by rw [roundV_n, (mayV_ea _ _ _).2]; exact hw1)).2.2.2.2
                  have e4 : h2 (21 + ns (k : Int) / 20) = qea v (whR ns (k : Int)) := (hh2 _ (by omega) (by omega)).trans (hr.2.2.2.2.2.2 (ns (k : Int) / 20) hw0 hw1).2.2.2.2
                  have h18 := ea_roundV (okV_mayV hv (x := (x : Int)) (by omega) (by omega) w) (i := whR ns (k : Int)) (by omega)
                  rw [(mayV_ea _ _ _).1] at h18
                  refine n_aload_n O dX6_may_66 rfl ?_
                  refine m_get_ns O hM fl_X6_31 dX6_may_67 ?_
                  refine n_iload O dX6_may_70 rfl ?_
                  refine m_ld_ns O hM (by omega) (by omega) dX6_may_72 ?_
                  refine r_bipush O (by decide +kernel) dX6_may_73 ?_
                  refine r_idiv O (iI_ne0 (by omega) (by omega)) (iI_div (by omega) (by omega) (by omega) (by omega)) dX6_may_75 ?_
                  refine n_istore O dX6_may_76 (by decide) rfl ?_
                  refine n_iload O dX6_may_78 rfl ?_
                  refine r_if_eq (tgt := 121) O ⟨by omega, by omega⟩ dX6_may_80 (by decide) (fun hc80 => ?_) (fun hc80 => ?_)
                  · skip
                    refine r_iconst O dX6_may_121 ?_
                    refine n_istore O dX6_may_122 (by decide) rfl ?_
                    refine n_iinc O dX6_may_124 (by decide) rfl rfl ?_
                    refine r_goto (tgt := 57) O dX6_may_127 (by decide) ?_
                    exact G_chk (ih57 _ (by omega) (k + 1) _ ⟨by omega, soN_st _ _ _ _ _ (by first | exact Or.inr ⟨rfl, by omega⟩ | exact Or.inl ⟨rfl, by omega, by omega⟩)⟩ rfl) (zsc rfl (zsc rfl (zsc rfl (zsc rfl (zsc rfl (zsc rfl zsn))))))
                  · skip
                    refine n_aload_n O dX6_may_83 rfl ?_
                    refine m_get_ss O hM fl_X6_22 dX6_may_84 ?_
                    refine r_bipush O (by decide +kernel) dX6_may_87 ?_
                    refine n_iload O dX6_may_89 rfl ?_
                    refine r_iadd O dX6_may_91 ?_
                    refine m_ld_ss O hM (by omega) (by omega) dX6_may_92 ?_
                    refine n_aload_n O dX6_may_93 rfl ?_
                    refine m_get_hh O hM fl_X6_34 dX6_may_94 ?_
                    refine r_bipush O (by decide +kernel) dX6_may_97 ?_
                    refine n_iload O dX6_may_99 rfl ?_
                    refine r_iadd O dX6_may_101 ?_
                    refine m_ld_hh O hM (by omega) (by omega) dX6_may_102 ?_
                    refine r_isub O dX6_may_103 ?_
                    refine n_aload_n O dX6_may_104 rfl ?_
                    refine m_get_ns O hM fl_X6_31 dX6_may_105 ?_
                    refine n_iload O dX6_may_108 rfl ?_
                    refine m_ld_ns O hM (by omega) (by omega) dX6_may_110 ?_
                    refine r_bipush O (by decide +kernel) dX6_may_111 ?_
                    refine r_irem O (iI_ne0 (by omega) (by omega)) (iI_rem (by omega) (by omega) (by omega) (by omega)) dX6_may_113 ?_
                    refine r_icmp_ne (tgt := 121) O ⟨by omega, by omega⟩ ⟨by omega, by omega⟩ dX6_may_114 (by decide) (fun hc114 => ?_) (fun hc114 => ?_)
                    · skip
                      refine r_iconst O dX6_may_121 ?_
                      refine n_istore O dX6_may_122 (by decide) rfl ?_
                      refine n_iinc O dX6_may_124 (by decide) rfl rfl ?_
                      refine r_goto (tgt := 57) O dX6_may_127 (by decide) ?_
                      exact G_chk (ih57 _ (by omega) (k + 1) _ ⟨by omega, soN_st _ _ _ _ _ (by first | exact Or.inr ⟨rfl, by omega⟩ | exact Or.inl ⟨rfl, by omega, by omega⟩)⟩ rfl) (zsc rfl (zsc rfl (zsc rfl (zsc rfl (zsc rfl (zsc rfl zsn))))))
                    · skip
                      refine r_iconst O dX6_may_117 ?_
                      refine r_goto (tgt := 122) O dX6_may_118 (by decide) ?_
                      refine n_istore O dX6_may_122 (by decide) rfl ?_
                      refine n_iinc O dX6_may_124 (by decide) rfl rfl ?_
                      refine r_goto (tgt := 57) O dX6_may_127 (by decide) ?_
                      exact G_chk (ih57 _ (by omega) (k + 1) _ ⟨by omega, soN_st _ _ _ _ _ (by first | exact Or.inr ⟨rfl, by omega⟩ | exact Or.inl ⟨rfl, by omega, by omega⟩)⟩ rfl) (zsc rfl (zsc rfl (zsc rfl (zsc rfl (zsc rfl (zsc rfl zsn))))))
            exact G_chk (L57 _ 0 1 ⟨by omega, rfl⟩ rfl) (zsc rfl (zsc rfl (zsc rfl (zsc rfl (zsc rfl (zsc rfl zsn))))))
          · skip
            refine r_bipush O (by decide +kernel) dX6_may_33 ?_
            refine r_goto (tgt := 40) O dX6_may_35 (by decide) ?_
            refine n_iload_n O dX6_may_40 rfl ?_
            refine m_st_ss O hM (by omega) (by omega) dX6_may_41 ?_
            refine n_aload_n O dX6_may_42 rfl ?_
            refine n_aload_n O dX6_may_43 rfl ?_
            refine r_callV0i O (C_X6_all hI hM _ _ _ _ _ _ _ _ _ _ _ _ _ _ _ _ (qn v).toNat (by omega) (by omega)) q_X6_104 (by rw [hM]; decide) (fs := _) rfl rfl rfl (by decide) (by decide) (Nat.le_of_ble_eq_true rfl) dX6_may_44 (fun zz44 zu44 hz44 => ?_)
            obtain ⟨rfl, rfl⟩ := hz44
            refine r_callV1i O (C_X6_eats hI hM _ _ _ _ _ _ _ _ _ _ _ _ _ _ _ _ (mayV v w (x : Int)) (okV_mayV hv (by omega) (by omega) w) (by first | exact (mR_may hmd (by omega) (w := w) (x : Int)).1 (by omega) | exact (mR_may hmd (by omega) (w := w) (x : Int)).2 (by omega)) (2 ^ (qn v).toNat - 1) (by omega)) q_X6_107 (by rw [hM]; decide) (fs := _) rfl rfl rfl (by decide) (by decide) (Nat.le_of_ble_eq_true rfl) dX6_may_47 (fun zz47 zu47 hz47 => ?_)
            obtain ⟨_, s3, hq3, rfl⟩ := hz47
            have hra : roundQ (mayV v w (x : Int)) (2 ^ (qn v).toNat - 1) = (roundV (mayV v w (x : Int))).1 := by have e := roundQ_all (okV_mayV hv (x := (x : Int)) (by omega) (by omega) w); rw [(mayV_ea _ _ _).2] at e; exact e
            rw [hra] at hq3
            refine r_pop O rfl dX6_may_50 ?_
            refine r_iconst O dX6_may_51 ?_
            refine n_istore O dX6_may_52 (by decide) rfl ?_
            refine r_iconst O dX6_may_54 ?_
            refine n_istore O dX6_may_55 (by decide) rfl ?_
            have L57 : ∀ (zk : Nat) (k : Nat) (f : Int), ((k : Int) ≤ nd ∧ f = soN v (roundV (mayV v w (x : Int))).1 (whR ns) (muR ns) k) → 6 - k = zk → G K X 7 57 [(0, .ref (kad K 0)), (1, .int (iI w)), (2, .int (iI (b : Int))), (3, .int (iI (x : Int))), (4, .int (iI f)), (5, .int (iI (k : Int)))] [] (layM K tx ty td dr bg s3 pa kn im kp ns nd ap ((eatQ (mayV v w (x : Int)) (2 ^ (qn v).toNat - 1) (qn (mayV v w (x : Int))).toNat).2.2) h2 tt) := by
              intro zk
              induction zk using Nat.strongRecOn with
              | ind zk ih57 =>
                intro k f hinv hk
                obtain ⟨hk, hf⟩ := hinv
                have hf01 := soN_01 v (roundV (mayV v w (x : Int))).1 (whR ns) (muR ns) k
                refine n_iload O dX6_may_57 rfl ?_
                refine n_aload_n O dX6_may_59 rfl ?_
                refine m_get_nd O hM fl_X6_86 dX6_may_60 ?_
                refine r_icmp_ge (tgt := 130) O ⟨by omega, by omega⟩ ⟨by omega, by omega⟩ dX6_may_63 (by decide) (fun hc63 => ?_) (fun hc63 => ?_)
                · skip
                  have ekn : k = nd.toNat := by omega
                  rw [ekn] at hf hf01
                  refine n_iload_n O dX6_may_130 rfl ?_
                  refine n_iload O dX6_may_131 rfl ?_
                  refine r_if_eq (tgt := 142) O ⟨by omega, by omega⟩ dX6_may_133 (by decide) (fun hc133 => ?_) (fun hc133 => ?_)
                  · skip
                    refine r_iconst O dX6_may_142 ?_
                    refine r_ior O (by first | exact iI_or _ _ | exact iI_or b 0) dX6_may_143 ?_
                    refine n_istore_n O dX6_may_144 (by decide) rfl ?_
                    refine n_aload_n O dX6_may_145 rfl ?_
                    refine r_callV0v O (C_X6_lets hI hM _ _ _ _ _ _ _ _ _ _ _ _ _ _ _ _ ) q_X6_130 (by rw [hM]; decide) (fs := _) rfl rfl rfl (by decide) (by decide) (Nat.le_of_ble_eq_true rfl) dX6_may_146 (fun zu146 hz146 => ?_)
                    obtain ⟨s5, hs5, rfl⟩ := hz146
                    have hr5 := mR_31 hr (by omega) (fun y h0 h1 => (hs5 y h0 h1).trans (hh2 y h0 h1))
                    refine n_iinc O dX6_may_149 (by decide) rfl rfl ?_
                    refine r_goto (tgt := 19) O dX6_may_152 (by decide) ?_
                    exact G_chk (ih19 _ (by omega) (x + 1) _ _ _ ⟨by omega, mayN_st _ _ _ _ _ _ (by first | exact Or.inr ⟨by first | exact hb | (rw [Nat.or_zero]; exact hb), by omega⟩ | exact Or.inl ⟨by rw [hb], by omega⟩), hr5⟩ rfl) (zsc rfl (zsc rfl (zsc rfl (zsc rfl zsn))))
                  · skip
                    refine r_iconst O dX6_may_136 ?_
                    refine n_iload_n O dX6_may_137 rfl ?_
                    refine r_ishl O (bit_shl31 (by omega)) dX6_may_138 ?_
                    refine r_goto (tgt := 143) O dX6_may_139 (by decide) ?_
                    refine r_ior O (by first | exact iI_or _ _ | exact iI_or b 0) dX6_may_143 ?_
                    refine n_istore_n O dX6_may_144 (by decide) rfl ?_
                    refine n_aload_n O dX6_may_145 rfl ?_
                    refine r_callV0v O (C_X6_lets hI hM _ _ _ _ _ _ _ _ _ _ _ _ _ _ _ _ ) q_X6_130 (by rw [hM]; decide) (fs := _) rfl rfl rfl (by decide) (by decide) (Nat.le_of_ble_eq_true rfl) dX6_may_146 (fun zu146 hz146 => ?_)
                    obtain ⟨s5, hs5, rfl⟩ := hz146
                    have hr5 := mR_31 hr (by omega) (fun y h0 h1 => (hs5 y h0 h1).trans (hh2 y h0 h1))
                    refine n_iinc O dX6_may_149 (by decide) rfl rfl ?_
                    refine r_goto (tgt := 19) O dX6_may_152 (by decide) ?_
                    exact G_chk (ih19 _ (by omega) (x + 1) _ _ _ ⟨by omega, mayN_st _ _ _ _ _ _ (by first | exact Or.inr ⟨by first | exact hb | (rw [Nat.or_zero]; exact hb), by omega⟩ | exact Or.inl ⟨by rw [hb], by omega⟩), hr5⟩ rfl) (zsc rfl (zsc rfl (zsc rfl (zsc rfl zsn))))
                · skip
                  have hnk := hns.2 (k : Int) (by omega) (by omega)
                  have hwk : whR ns (k : Int) = ns (k : Int) / 20 := rfl
                  have hmk : muR ns (k : Int) = ns (k : Int) % 20 := rfl
                  have hw0 : 0 ≤ ns (k : Int) / 20 := by omega
                  have hw1 : ns (k : Int) / 20 < qn v := by omega
                  have e3 : s3 (21 + ns (k : Int) / 20) = qea (roundV (mayV v w (x : Int))).1 (whR ns (k : Int)) := (hq3.2.2.2.2.2.2 (ns (k : Int) / 20) hw0 (by rw [roundV_n, (mayV_ea _ _ _).2]; exact hw1)).2.2.2.2
                  have e4 : h2 (21 + ns (k : Int) / 20) = qea v (whR ns (k : Int)) := (hh2 _ (by omega) (by omega)).trans (hr.2.2.2.2.2.2 (ns (k : Int) / 20) hw0 hw1).2.2.2.2
                  have h18 := ea_roundV (okV_mayV hv (x := (x : Int)) (by omega) (by omega) w) (i := whR ns (k : Int)) (by omega)
                  rw [(mayV_ea _ _ _).1] at h18
                  refine n_aload_n O dX6_may_66 rfl ?_
                  refine m_get_ns O hM fl_X6_31 dX6_may_67 ?_
                  refine n_iload O dX6_may_70 rfl ?_
                  refine m_ld_ns O hM (by omega) (by omega) dX6_may_72 ?_
                  refine r_bipush O (by decide +kernel) dX6_may_73 ?_
                  refine r_idiv O (iI_ne0 (by omega) (by omega)) (iI_div (by omega) (by omega) (by omega) (by omega)) dX6_may_75 ?_
                  refine n_istore O dX6_may_76 (by decide) rfl ?_
                  refine n_iload O dX6_may_78 rfl ?_
                  refine r_if_eq (tgt := 121) O ⟨by omega, by omega⟩ dX6_may_80 (by decide) (fun hc80 => ?_) (fun hc80 => ?_)
                  · skip
                    refine r_iconst O dX6_may_121 ?_
                    refine n_istore O dX6_may_122 (by decide) rfl ?_
                    refine n_iinc O dX6_may_124 (by decide) rfl rfl ?_
                    refine r_goto (tgt := 57) O dX6_may_127 (by decide) ?_
                    exact G_chk (ih57 _ (by omega) (k + 1) _ ⟨by omega, soN_st _ _ _ _ _ (by first | exact Or.inr ⟨rfl, by omega⟩ | exact Or.inl ⟨rfl, by omega, by omega⟩)⟩ rfl) (zsc rfl (zsc rfl (zsc rfl (zsc rfl (zsc rfl (zsc rfl zsn))))))
                  · skip
                    refine n_aload_n O dX6_may_83 rfl ?_
                    refine m_get_ss O hM fl_X6_22 dX6_may_84 ?_
                    refine r_bipush O (by decide +kernel) dX6_may_87 ?_
                    refine n_iload O dX6_may_89 rfl ?_
                    refine r_iadd O dX6_may_91 ?_
                    refine m_ld_ss O hM (by omega) (by omega) dX6_may_92 ?_
                    refine n_aload_n O dX6_may_93 rfl ?_
                    refine m_get_hh O hM fl_X6_34 dX6_may_94 ?_
                    refine r_bipush O (by decide +kernel) dX6_may_97 ?_
                    refine n_iload O dX6_may_99 rfl ?_
                    refine r_iadd O dX6_may_101 ?_
                    refine m_ld_hh O hM (by omega) (by omega) dX6_may_102 ?_
                    refine r_isub O dX6_may_103 ?_
                    refine n_aload_n O dX6_may_104 rfl ?_
                    refine m_get_ns O hM fl_X6_31 dX6_may_105 ?_
                    refine n_iload O dX6_may_108 rfl ?_
                    refine m_ld_ns O hM (by omega) (by omega) dX6_may_110 ?_
                    refine r_bipush O (by decide +kernel) dX6_may_111 ?_
                    refine r_irem O (iI_ne0 (by omega) (by omega)) (iI_rem (by omega) (by omega) (by omega) (by omega)) dX6_may_113 ?_
                    refine r_icmp_ne (tgt := 121) O ⟨by omega, by omega⟩ ⟨by omega, by omega⟩ dX6_may_114 (by decide) (fun hc114 => ?_) (fun hc114 => ?_)
                    · skip
                      refine r_iconst O dX6_may_121 ?_
                      refine n_istore O dX6_may_122 (by decide) rfl ?_
                      refine n_iinc O dX6_may_124 (by decide) rfl rfl ?_
                      refine r_goto (tgt := 57) O dX6_may_127 (by decide) ?_
                      exact G_chk (ih57 _ (by omega) (k + 1) _ ⟨by omega, soN_st _ _ _ _ _ (by first | exact Or.inr ⟨rfl, by omega⟩ | exact Or.inl ⟨rfl, by omega, by omega⟩)⟩ rfl) (zsc rfl (zsc rfl (zsc rfl (zsc rfl (zsc rfl (zsc rfl zsn))))))
                    · skip
                      refine r_iconst O dX6_may_117 ?_
                      refine r_goto (tgt := 122) O dX6_may_118 (by decide) ?_
                      refine n_istore O dX6_may_122 (by decide) rfl ?_
                      refine n_iinc O dX6_may_124 (by decide) rfl rfl ?_
                      refine r_goto (tgt := 57) O dX6_may_127 (by decide) ?_
                      exact G_chk (ih57 _ (by omega) (k + 1) _ ⟨by omega, soN_st _ _ _ _ _ (by first | exact Or.inr ⟨rfl, by omega⟩ | exact Or.inl ⟨rfl, by omega, by omega⟩)⟩ rfl) (zsc rfl (zsc rfl (zsc rfl (zsc rfl (zsc rfl (zsc rfl zsn))))))
            exact G_chk (L57 _ 0 1 ⟨by omega, rfl⟩ rfl) (zsc rfl (zsc rfl (zsc rfl (zsc rfl (zsc rfl (zsc rfl zsn))))))
    exact G_chk (L19 _ 0 0 ss la ⟨by omega, rfl, hr⟩ rfl) (zsc rfl (zsc rfl (zsc rfl (zsc rfl zsn))))
  · skip
    refine r_iconst O dX6_may_9 ?_
    exact hE _ _ _ _ dX6_may_10 rfl (Or.inl ⟨by omega, rfl, rfl⟩)
set_option maxHeartbeats 4000000 in
theorem C_X6_turn {K : zK} (hI : zInj K) (hM : kN K = 11) (tx : Int → Int) (ty : Int) (td dr bg ss pa : Int → Int) (kn : Int) (im : Int → Int) (kp : Int) (ns : Int → Int) (nd ap la : Int) (hh tt : Int → Int) (v : SV) (hv : okV v) (hr : mR td ss v) (d : Int) (hd0 : 0 ≤ d) (hd1 : d ≤ 8190)  : zCv K yX6_turn cX6_turn 3 2 [.ref (kad K 0), .int (iI d)] (layM K tx ty td dr bg ss pa kn im kp ns nd ap la hh tt) (fun u => ∃ (s2 : Int → Int) (lb : Int), mR td s2 (liveV v d) ∧ u = (layM K tx ty td dr bg s2 pa kn im kp ns nd ap lb hh tt)) := by
  obtain ⟨hn7, ham, hhe, hsa, hro, hfa, hm⟩ := id hv
  obtain ⟨r1, r2, r3, r4, r5, r6, rm⟩ := id hr
  have hpw := pow_b (qn v).toNat (by omega)
  refine zCv_in hI (by decide +kernel) (Nat.le_of_ble_eq_true rfl) (fun X O hE => ?_)
  refine n_iload_n O dX6_turn_0 rfl ?_
  refine r_iconst O dX6_turn_1 ?_
  refine r_idiv O (iI_ne0 (by omega) (by omega)) (iI_div (by omega) (by omega) (by omega) (by omega)) dX6_turn_2 ?_
  refine n_istore_n O dX6_turn_3 (by decide) rfl ?_
  refine n_iload_n O dX6_turn_4 rfl ?_
  refine r_iconst O dX6_turn_5 ?_
  refine r_irem O (iI_ne0 (by omega) (by omega)) (iI_rem (by omega) (by omega) (by omega) (by omega)) dX6_turn_6 ?_
  have hsw : (d % 4) < 0 ∨ 2 < (d % 4) ∨ (d % 4) = 0 ∨ (d % 4) = 1 ∨ (d % 4) = 2 := by omega
  rcases hsw with hsw | hsw | hsw | hsw | hsw
  · skip
    exfalso; omega
  · skip
    refine r_tabOut (tgt := 105) O ⟨by omega, by omega⟩ dX6_turn_7 (Or.inr hsw) (by decide) ?_
    refine n_aload_n O dX6_turn_105 rfl ?_
    refine r_callV0v O (C_X6_starves hI hM _ _ _ _ _ _ _ _ _ _ _ _ _ _ _ _ v hv hr) q_X6_118 (by rw [hM]; decide) (fs := _) rfl rfl rfl (by decide) (by decide) (Nat.le_of_ble_eq_true rfl) dX6_turn_106 (fun zu106 hz106 => ?_)
    obtain ⟨s3, hq3, rfl⟩ := hz106
    exact hE _ _ _ dX6_turn_109 ⟨_, _, by unfold liveV; first | (rw [if_pos (by omega)]; exact hq3) | (rw [if_neg (by omega), if_pos (by omega), if_pos (by omega)]; exact hq3) | (rw [if_neg (by omega), if_pos (by omega), if_neg (by omega)]; exact hr) | (rw [if_neg (by omega), if_neg (by omega), if_pos (by omega), if_pos (by omega)]; first | exact mR_tsalt hr (by omega) (Or.inl ⟨rfl, by omega⟩) | exact mR_tsalt hr (by omega) (Or.inr ⟨rfl, by omega, by omega⟩)) | (rw [if_neg (by omega), if_neg (by omega), if_pos (by omega), if_neg (by omega)]; exact mR_tid hr (by omega) rfl) | (rw [if_neg (by omega), if_neg (by omega), if_pos (by omega)]; by_cases h3 : d / 4 % 3 = 0; (rw [if_pos h3]; exact mR_tsalt hr (by omega) (Or.inr ⟨rfl, by omega, by omega⟩)); (rw [if_neg h3]; exact mR_tid hr (by omega) rfl)) | (rw [if_neg (by omega), if_neg (by omega), if_neg (by omega)]; exact hq3), rfl⟩
  · skip
    refine r_tabIn (off := 25) (tgt := 32) O ⟨by omega, by omega⟩ dX6_turn_7 (by omega) (by omega) (by rw [hsw]; rfl) (by decide) ?_
    refine n_aload_n O dX6_turn_32 rfl ?_
    refine n_aload_n O dX6_turn_33 rfl ?_
    refine r_callV0i O (C_X6_all hI hM _ _ _ _ _ _ _ _ _ _ _ _ _ _ _ _ (qn v).toNat (by omega) (by omega)) q_X6_104 (by rw [hM]; decide) (fs := _) rfl rfl rfl (by decide) (by decide) (Nat.le_of_ble_eq_true rfl) dX6_turn_34 (fun zz34 zu34 hz34 => ?_)
    obtain ⟨rfl, rfl⟩ := hz34
    refine r_callV1i O (C_X6_eats hI hM _ _ _ _ _ _ _ _ _ _ _ _ _ _ _ _ v hv hr (2 ^ (qn v).toNat - 1) (by omega)) q_X6_107 (by rw [hM]; decide) (fs := _) rfl rfl rfl (by decide) (by decide) (Nat.le_of_ble_eq_true rfl) dX6_turn_37 (fun zz37 zu37 hz37 => ?_)
    obtain ⟨_, s3, hq3, rfl⟩ := hz37
    rw [roundQ_all hv] at hq3
    refine r_pop O rfl dX6_turn_40 ?_
    refine r_goto (tgt := 109) O dX6_turn_41 (by decide) ?_
    exact hE _ _ _ dX6_turn_109 ⟨_, _, by unfold liveV; first | (rw [if_pos (by omega)]; exact hq3) | (rw [if_neg (by omega), if_pos (by omega), if_pos (by omega)]; exact hq3) | (rw [if_neg (by omega), if_pos (by omega), if_neg (by omega)]; exact hr) | (rw [if_neg (by omega), if_neg (by omega), if_pos (by omega), if_pos (by omega)]; first | exact mR_tsalt hr (by omega) (Or.inl ⟨rfl, by omega⟩) | exact mR_tsalt hr (by omega) (Or.inr ⟨rfl, by omega, by omega⟩)) | (rw [if_neg (by omega), if_neg (by omega), if_pos (by omega), if_neg (by omega)]; exact mR_tid hr (by omega) rfl) | (rw [if_neg (by omega), if_neg (by omega), if_pos (by omega)]; by_cases h3 : d / 4 % 3 = 0; (rw [if_pos h3]; exact mR_tsalt hr (by omega) (Or.inr ⟨rfl, by omega, by omega⟩)); (rw [if_neg h3]; exact mR_tid hr (by omega) rfl)) | (rw [if_neg (by omega), if_neg (by omega), if_neg (by omega)]; exact hq3), rfl⟩
  · skip
    refine r_tabIn (off := 37) (tgt := 44) O ⟨by omega, by omega⟩ dX6_turn_7 (by omega) (by omega) (by rw [hsw]; rfl) (by decide) ?_
    refine n_iload_n O dX6_turn_44 rfl ?_
    refine r_bipush O (by decide +kernel) dX6_turn_45 ?_
    refine r_irem O (iI_ne0 (by omega) (by omega)) (iI_rem (by omega) (by omega) (by omega) (by omega)) dX6_turn_47 ?_
    refine n_aload_n O dX6_turn_48 rfl ?_
    refine m_get_ss O hM fl_X6_22 dX6_turn_49 ?_
    refine r_bipush O (by decide +kernel) dX6_turn_52 ?_
    refine m_ld_ss O hM (by omega) (by omega) dX6_turn_54 ?_
    refine r_icmp_le (tgt := 109) O ⟨by omega, by omega⟩ ⟨by omega, by omega⟩ dX6_turn_55 (by decide) (fun hc55 => ?_) (fun hc55 => ?_)
    · skip
      exact hE _ _ _ dX6_turn_109 ⟨_, _, by unfold liveV; first | (rw [if_pos (by omega)]; exact hq3) | (rw [if_neg (by omega), if_pos (by omega), if_pos (by omega)]; exact hq3) | (rw [if_neg (by omega), if_pos (by omega), if_neg (by omega)]; exact hr) | (rw [if_neg (by omega), if_neg (by omega), if_pos (by omega), if_pos (by omega)]; first | exact mR_tsalt hr (by omega) (Or.inl ⟨rfl, by omega⟩) | exact mR_tsalt hr (by omega) (Or.inr ⟨rfl, by omega, by omega⟩)) | (rw [if_neg (by omega), if_neg (by omega), if_pos (by omega), if_neg (by omega)]; exact mR_tid hr (by omega) rfl) | (rw [if_neg (by omega), if_neg (by omega), if_pos (by omega)]; by_cases h3 : d / 4 % 3 = 0; (rw [if_pos h3]; exact mR_tsalt hr (by omega) (Or.inr ⟨rfl, by omega, by omega⟩)); (rw [if_neg h3]; exact mR_tid hr (by omega) rfl)) | (rw [if_neg (by omega), if_neg (by omega), if_neg (by omega)]; exact hq3), rfl⟩
    · skip
      refine n_aload_n O dX6_turn_58 rfl ?_
      refine n_iload_n O dX6_turn_59 rfl ?_
      refine r_bipush O (by decide +kernel) dX6_turn_60 ?_
      refine r_irem O (iI_ne0 (by omega) (by omega)) (iI_rem (by omega) (by omega) (by omega) (by omega)) dX6_turn_62 ?_
      refine r_callV1v O (C_X6_cooks hI hM _ _ _ _ _ _ _ _ _ _ _ _ _ _ _ _ v hv hr _) q_X6_110 (by rw [hM]; decide) (fs := _) rfl rfl rfl (by decide) (by decide) (Nat.le_of_ble_eq_true rfl) dX6_turn_63 (fun zu63 hz63 => ?_)
      obtain ⟨s3, hq3, rfl⟩ := hz63
      refine r_goto (tgt := 109) O dX6_turn_66 (by decide) ?_
      exact hE _ _ _ dX6_turn_109 ⟨_, _, by unfold liveV; first | (rw [if_pos (by omega)]; exact hq3) | (rw [if_neg (by omega), if_pos (by omega), if_pos (by omega)]; exact hq3) | (rw [if_neg (by omega), if_pos (by omega), if_neg (by omega)]; exact hr) | (rw [if_neg (by omega), if_neg (by omega), if_pos (by omega), if_pos (by omega)]; first | exact mR_tsalt hr (by omega) (Or.inl ⟨rfl, by omega⟩) | exact mR_tsalt hr (by omega) (Or.inr ⟨rfl, by omega, by omega⟩)) | (rw [if_neg (by omega), if_neg (by omega), if_pos (by omega), if_neg (by omega)]; exact mR_tid hr (by omega) rfl) | (rw [if_neg (by omega), if_neg (by omega), if_pos (by omega)]; by_cases h3 : d / 4 % 3 = 0; (rw [if_pos h3]; exact mR_tsalt hr (by omega) (Or.inr ⟨rfl, by omega, by omega⟩)); (rw [if_neg h3]; exact mR_tid hr (by omega) rfl)) | (rw [if_neg (by omega), if_neg (by omega), if_neg (by omega)]; exact hq3), rfl⟩
  · skip
    refine r_tabIn (off := 62) (tgt := 69) O ⟨by omega, by omega⟩ dX6_turn_7 (by omega) (by omega) (by rw [hsw]; rfl) (by decide) ?_
    refine n_aload_n O dX6_turn_69 rfl ?_
    refine m_get_ss O hM fl_X6_22 dX6_turn_70 ?_
    refine r_bipush O (by decide +kernel) dX6_turn_73 ?_
    refine r_dup2 O rfl rfl dX6_turn_75 ?_
    refine m_ld_ss O hM (by omega) (by omega) dX6_turn_76 ?_
    refine n_aload_n O dX6_turn_77 rfl ?_
    refine m_get_ss O hM fl_X6_22 dX6_turn_78 ?_
    refine r_bipush O (by decide +kernel) dX6_turn_81 ?_
    refine m_ld_ss O hM (by omega) (by omega) dX6_turn_83 ?_
    refine r_bipush O (by decide +kernel) dX6_turn_84 ?_
    refine r_icmp_ge (tgt := 99) O ⟨by omega, by omega⟩ ⟨by omega, by omega⟩ dX6_turn_86 (by decide) (fun hc86 => ?_) (fun hc86 => ?_)
    · skip
      refine r_iconst O dX6_turn_99 ?_
      refine r_iadd O dX6_turn_100 ?_
      refine m_st_ss O hM (by omega) (by omega) dX6_turn_101 ?_
      refine r_goto (tgt := 109) O dX6_turn_102 (by decide) ?_
      exact hE _ _ _ dX6_turn_109 ⟨_, _, by unfold liveV; first | (rw [if_pos (by omega)]; exact hq3) | (rw [if_neg (by omega), if_pos (by omega), if_pos (by omega)]; exact hq3) | (rw [if_neg (by omega), if_pos (by omega), if_neg (by omega)]; exact hr) | (rw [if_neg (by omega), if_neg (by omega), if_pos (by omega), if_pos (by omega)]; first | exact mR_tsalt hr (by omega) (Or.inl ⟨rfl, by omega⟩) | exact mR_tsalt hr (by omega) (Or.inr ⟨rfl, by omega, by omega⟩)) | (rw [if_neg (by omega), if_neg (by omega), if_pos (by omega), if_neg (by omega)]; exact mR_tid hr (by omega) rfl) | (rw [if_neg (by omega), if_neg (by omega), if_pos (by omega)]; by_cases h3 : d / 4 % 3 = 0; (rw [if_pos h3]; exact mR_tsalt hr (by omega) (Or.inr ⟨rfl, by omega, by omega⟩)); (rw [if_neg h3]; exact mR_tid hr (by omega) rfl)) | (rw [if_neg (by omega), if_neg (by omega), if_neg (by omega)]; exact hq3), rfl⟩
    · skip
      refine n_iload_n O dX6_turn_89 rfl ?_
      refine r_iconst O dX6_turn_90 ?_
      refine r_irem O (iI_ne0 (by omega) (by omega)) (iI_rem (by omega) (by omega) (by omega) (by omega)) dX6_turn_91 ?_
      refine r_if_ne (tgt := 99) O ⟨by omega, by omega⟩ dX6_turn_92 (by decide) (fun hc92 => ?_) (fun hc92 => ?_)
      · skip
        refine r_iconst O dX6_turn_99 ?_
        refine r_iadd O dX6_turn_100 ?_
        refine m_st_ss O hM (by omega) (by omega) dX6_turn_101 ?_
        refine r_goto (tgt := 109) O dX6_turn_102 (by decide) ?_
        exact hE _ _ _ dX6_turn_109 ⟨_, _, by unfold liveV; first | (rw [if_pos (by omega)]; exact hq3) | (rw [if_neg (by omega), if_pos (by omega), if_pos (by omega)]; exact hq3) | (rw [if_neg (by omega), if_pos (by omega), if_neg (by omega)]; exact hr) | (rw [if_neg (by omega), if_neg (by omega), if_pos (by omega), if_pos (by omega)]; first | exact mR_tsalt hr (by omega) (Or.inl ⟨rfl, by omega⟩) | exact mR_tsalt hr (by omega) (Or.inr ⟨rfl, by omega, by omega⟩)) | (rw [if_neg (by omega), if_neg (by omega), if_pos (by omega), if_neg (by omega)]; exact mR_tid hr (by omega) rfl) | (rw [if_neg (by omega), if_neg (by omega), if_pos (by omega)]; by_cases h3 : d / 4 % 3 = 0; (rw [if_pos h3]; exact mR_tsalt hr (by omega) (Or.inr ⟨rfl, by omega, by omega⟩)); (rw [if_neg h3]; exact mR_tid hr (by omega) rfl)) | (rw [if_neg (by omega), if_neg (by omega), if_neg (by omega)]; exact hq3), rfl⟩
      · skip
        refine r_iconst O dX6_turn_95 ?_
        refine r_goto (tgt := 100) O dX6_turn_96 (by decide) ?_
        refine r_iadd O dX6_turn_100 ?_
        refine m_st_ss O hM (by omega) (by omega) dX6_turn_101 ?_
        refine r_goto (tgt := 109) O dX6_turn_102 (by decide) ?_
        exact hE _ _ _ dX6_turn_109 ⟨_, _, by unfold liveV; first | (rw [if_pos (by omega)]; exact hq3) | (rw [if_neg (by omega), if_pos (by omega), if_pos (by omega)]; exact hq3) | (rw [if_neg (by omega), if_pos (by omega), if_neg (by omega)]; exact hr) | (rw [if_neg (by omega), if_neg (by omega), if_pos (by omega), if_pos (by omega)]; first | exact mR_tsalt hr (by omega) (Or.inl ⟨rfl, by omega⟩) | exact mR_tsalt hr (by omega) (Or.inr ⟨rfl, by omega, by omega⟩)) | (rw [if_neg (by omega), if_neg (by omega), if_pos (by omega), if_neg (by omega)]; exact mR_tid hr (by omega) rfl) | (rw [if_neg (by omega), if_neg (by omega), if_pos (by omega)]; by_cases h3 : d / 4 % 3 = 0; (rw [if_pos h3]; exact mR_tsalt hr (by omega) (Or.inr ⟨rfl, by omega, by omega⟩)); (rw [if_neg h3]; exact mR_tid hr (by omega) rfl)) | (rw [if_neg (by omega), if_neg (by omega), if_neg (by omega)]; exact hq3), rfl⟩
set_option maxHeartbeats 4000000 in
theorem C_X6_century {K : zK} (hI : zInj K) (hM : kN K = 11) (tx : Int → Int) (ty : Int) (td dr bg ss pa : Int → Int) (kn : Int) (im : Int → Int) (kp : Int) (ns : Int → Int) (nd ap la : Int) (hh tt : Int → Int) (v : SV) (hv : okV v) (hr : mR td ss v) (zz : Int) (bzz : zB zz) (n : Int) (bn : zB n) (w : Int) (bw : zB w)  : zCi K yX6_century cX6_century 7 (some .int) 3 [.ref (kad K 0), .int (iI zz), .int (iI n), .int (iI w)] (layM K tx ty td dr bg ss pa kn im kp ns nd ap la hh tt) (fun z u => (¬ ((0 ≤ zz ∧ zz ≤ 9999) ∧ (1 ≤ n ∧ n ≤ 40) ∧ 0 ≤ w ∧ w ≤ 1) ∧ z = -1 ∧ u = (layM K tx ty td dr bg ss pa kn im kp ns nd ap la hh tt)) ∨ (((0 ≤ zz ∧ zz ≤ 9999) ∧ (1 ≤ n ∧ n ≤ 40) ∧ 0 ≤ w ∧ w ≤ 1) ∧ z = cenI v zz n w ∧ ∃ (s2 h2 t2 : Int → Int) (w2 : Int), mR td s2 v ∧ u = (layM K tx ty td dr bg s2 pa kn im kp ns nd ap w2 h2 t2))) := by
  obtain ⟨hn7, ham, hhe, hsa, hro, hfa, hm⟩ := id hv
  obtain ⟨r1, r2, r3, r4, r5, r6, rm⟩ := id hr
  have hpw := pow_b (qn v).toNat (by omega)
  obtain ⟨bzz1, bzz2⟩ := id bzz
  obtain ⟨bn1, bn2⟩ := id bn
  obtain ⟨bw1, bw2⟩ := id bw
  refine zCi_in hI (by decide +kernel) (Nat.le_of_ble_eq_true rfl) (fun X O hE => ?_)
  refine n_iload_n O dX6_century_0 rfl ?_
  refine r_iconst O dX6_century_1 ?_
  refine r_sipush O (by decide +kernel) dX6_century_2 ?_
  refine r_callS3i O (C_X6_in hI _ _ _ _ ⟨by omega, by omega⟩ ⟨by omega, by omega⟩ ⟨by omega, by omega⟩) q_X6_50 (by decide) (by decide) (Nat.le_of_ble_eq_true rfl) dX6_century_5 (fun zz5 zu5 hz5 => ?_)
  obtain ⟨hzi5, rfl⟩ := hz5
  have hic5 := inI_c hzi5
  refine r_if_eq (tgt := 30) O ⟨by omega, by omega⟩ dX6_century_8 (by decide) (fun hc8 => ?_) (fun hc8 => ?_)
  · skip
    refine r_iconst O dX6_century_30 ?_
    exact hE _ _ _ _ dX6_century_31 rfl (Or.inl ⟨by omega, rfl, rfl⟩)
  · skip
    refine n_iload_n O dX6_century_11 rfl ?_
    refine r_iconst O dX6_century_12 ?_
    refine r_bipush O (by decide +kernel) dX6_century_13 ?_
    refine r_callS3i O (C_X6_in hI _ _ _ _ ⟨by omega, by omega⟩ ⟨by omega, by omega⟩ ⟨by omega, by omega⟩) q_X6_50 (by decide) (by decide) (Nat.le_of_ble_eq_true rfl) dX6_century_15 (fun zz15 zu15 hz15 => ?_)
    obtain ⟨hzi15, rfl⟩ := hz15
    have hic15 := inI_c hzi15
    refine r_if_eq (tgt := 30) O ⟨by omega, by omega⟩ dX6_century_18 (by decide) (fun hc18 => ?_) (fun hc18 => ?_)
    · skip
      refine r_iconst O dX6_century_30 ?_
      exact hE _ _ _ _ dX6_century_31 rfl (Or.inl ⟨by omega, rfl, rfl⟩)
    · skip
      refine n_iload_n O dX6_century_21 rfl ?_
      refine r_iconst O dX6_century_22 ?_
      refine r_iconst O dX6_century_23 ?_
      refine r_callS3i O (C_X6_in hI _ _ _ _ ⟨by omega, by omega⟩ ⟨by omega, by omega⟩ ⟨by omega, by omega⟩) q_X6_50 (by decide) (by decide) (Nat.le_of_ble_eq_true rfl) dX6_century_24 (fun zz24 zu24 hz24 => ?_)
      obtain ⟨hzi24, rfl⟩ := hz24
      have hic24 := inI_c hzi24
      refine r_if_ne (tgt := 32) O ⟨by omega, by omega⟩ dX6_century_27 (by decide) (fun hc27 => ?_) (fun hc27 => ?_)
      · skip
        refine n_aload_n O dX6_century_32 rfl ?_
        refine r_callV0v O (C_X6_holds hI hM _ _ _ _ _ _ _ _ _ _ _ _ _ _ _ _ ) q_X6_127 (by rw [hM]; decide) (fs := _) rfl rfl rfl (by decide) (by decide) (Nat.le_of_ble_eq_true rfl) dX6_century_33 (fun zu33 hz33 => ?_)
        obtain ⟨h2, hh2, rfl⟩ := hz33
        refine r_iconst O dX6_century_36 ?_
        refine n_istore O dX6_century_37 (by decide) rfl ?_
        have L39 : ∀ (zk : Nat) (k : Nat) (s1 : Int → Int) (lb : Int), ((k : Int) ≤ n ∧ mR td s1 (liveN v zz.toNat k)) → 40 - k = zk → G K X 7 39 [(0, .ref (kad K 0)), (1, .int (iI zz)), (2, .int (iI n)), (3, .int (iI w)), (4, .int (iI (k : Int)))] [] (layM K tx ty td dr bg s1 pa kn im kp ns nd ap lb h2 tt) := by
          intro zk
          induction zk using Nat.strongRecOn with
          | ind zk ih39 =>
            intro k s1 lb hinv hk
            obtain ⟨hk, hq⟩ := hinv
            refine n_iload O dX6_century_39 rfl ?_
            refine n_iload_n O dX6_century_41 rfl ?_
            refine r_icmp_ge (tgt := 86) O ⟨by omega, by omega⟩ ⟨by omega, by omega⟩ dX6_century_42 (by decide) (fun hc42 => ?_) (fun hc42 => ?_)
            · skip
              refine n_iload_n O dX6_century_86 rfl ?_
              refine r_if_ne (tgt := 100) O ⟨by omega, by omega⟩ dX6_century_87 (by decide) (fun hc87 => ?_) (fun hc87 => ?_)
              · skip
                refine n_aload_n O dX6_century_100 rfl ?_
                refine r_bipush O (by decide +kernel) dX6_century_101 ?_
                refine r_callV1i O (C_X6_sumOf hI hM _ _ _ _ _ _ _ _ _ _ _ _ _ _ _ _ (qn v).toNat (by omega) (by omega) 21 (by omega)) q_X6_121 (by rw [hM]; decide) (fs := _) rfl rfl rfl (by decide) (by decide) (Nat.le_of_ble_eq_true rfl) dX6_century_103 (fun zz103 zu103 hz103 => ?_)
                obtain ⟨rfl, rfl⟩ := hz103
                refine n_istore O dX6_century_106 (by decide) rfl ?_
                refine n_aload_n O dX6_century_108 rfl ?_
                refine r_callV0v O (C_X6_lets hI hM _ _ _ _ _ _ _ _ _ _ _ _ _ _ _ _ ) q_X6_130 (by rw [hM]; decide) (fs := _) rfl rfl rfl (by decide) (by decide) (Nat.le_of_ble_eq_true rfl) dX6_century_109 (fun zu109 hz109 => ?_)
                obtain ⟨s5, hs5, rfl⟩ := hz109
                have hr5 := mR_31 hr (by omega) (fun y h0 h1 => (hs5 y h0 h1).trans (hh2 y h0 h1))
                refine n_iload O dX6_century_112 rfl ?_
                exact hE _ _ _ _ dX6_century_114 rfl (Or.inr ⟨by omega, by (have e : n.toNat = k := by omega); unfold cenI; rw [e]; first | (rw [if_pos (by omega)]; exact hq.2.1) | (rw [if_neg (by omega)]; (have h9 := sum_ea hq (by rw [liveN_n]; omega)); rw [liveN_n] at h9; exact h9), _, _, _, _, hr5, rfl⟩)
              · skip
                refine n_aload_n O dX6_century_90 rfl ?_
                refine m_get_ss O hM fl_X6_22 dX6_century_91 ?_
                refine r_bipush O (by decide +kernel) dX6_century_94 ?_
                refine m_ld_ss O hM (by omega) (by omega) dX6_century_96 ?_
                refine r_goto (tgt := 106) O dX6_century_97 (by decide) ?_
                refine n_istore O dX6_century_106 (by decide) rfl ?_
                refine n_aload_n O dX6_century_108 rfl ?_
                refine r_callV0v O (C_X6_lets hI hM _ _ _ _ _ _ _ _ _ _ _ _ _ _ _ _ ) q_X6_130 (by rw [hM]; decide) (fs := _) rfl rfl rfl (by decide) (by decide) (Nat.le_of_ble_eq_true rfl) dX6_century_109 (fun zu109 hz109 => ?_)
                obtain ⟨s5, hs5, rfl⟩ := hz109
                have hr5 := mR_31 hr (by omega) (fun y h0 h1 => (hs5 y h0 h1).trans (hh2 y h0 h1))
                refine n_iload O dX6_century_112 rfl ?_
                exact hE _ _ _ _ dX6_century_114 rfl (Or.inr ⟨by omega, by (have e : n.toNat = k := by omega); unfold cenI; rw [e]; first | (rw [if_pos (by omega)]; exact hq.2.1) | (rw [if_neg (by omega)]; (have h9 := sum_ea hq (by rw [liveN_n]; omega)); rw [liveN_n] at h9; exact h9), _, _, _, _, hr5, rfl⟩)
            · skip
              have hxb : 7919 * zz.toNat + 6151 * k + 1 < 80000000 := by omega
              have hxx : (7919 * zz.toNat + 6151 * k + 1) * (7919 * zz.toNat + 6151 * k + 1) ≤ 80000000 * 80000000 := Nat.mul_le_mul (by omega) (by omega)
              refine r_ldc2 O kl_X6_145 dX6_century_45 ?_
              refine n_iload_n O dX6_century_48 rfl ?_
              refine r_i2l O (v := lN zz.toNat) (by rw [← Int.toNat_of_nonneg (a := zz) (by omega), iI_n]; exact nI_l (by omega)) dX6_century_49 ?_
              refine r_lmul O (show (7919 : Int64) * lN zz.toNat = lN (7919 * zz.toNat) from lN_mul 7919 zz.toNat) dX6_century_50 ?_
              refine r_ldc2 O kl_X6_147 dX6_century_51 ?_
              refine n_iload O dX6_century_54 rfl ?_
              refine r_i2l O (v := lN k) (by rw [iI_n]; exact nI_l (by omega)) dX6_century_56 ?_
              refine r_lmul O (show (6151 : Int64) * lN k = lN (6151 * k) from lN_mul 6151 k) dX6_century_57 ?_
              refine r_ladd O (lN_add _ _) dX6_century_58 ?_
              refine r_lconst O (v := lN 1) rfl dX6_century_59 ?_
              refine r_ladd O (lN_add _ _) dX6_century_60 ?_
              refine r_lstore O dX6_century_61 (by decide) rfl ?_
              refine n_aload_n O dX6_century_63 rfl ?_
              refine r_lload O dX6_century_64 zLo_0 ?_
              refine r_lload O dX6_century_66 zLo_0 ?_
              refine r_lmul O (lN_mul _ _) dX6_century_68 ?_
              refine r_ldc2 O kl_X6_149 dX6_century_69 ?_
              refine r_lrem O (by decide) (pk_lRem (b := 65521) (by omega) (by decide) (by decide)) dX6_century_72 ?_
              refine G_sub (lo' := [(0, .ref (kad K 0)), (1, .int (iI zz)), (2, .int (iI n)), (3, .int (iI w)), (4, .int (iI (k : Int)))]) (fun q hq9 => List.mem_cons_of_mem _ hq9) ?_
              refine r_l2i O (z := (((7919 * zz.toNat + 6151 * k + 1) * (7919 * zz.toNat + 6151 * k + 1) % 65521 : Nat) : Int)) (by rw [lN_i]; exact (iI_n _).symm) dX6_century_73 ?_
              refine r_bipush O (by decide +kernel) dX6_century_74 ?_
              refine r_idiv O (iI_ne0 (by omega) (by omega)) (show _ = iI (drawI zz.toNat k) from iI_div (by omega) (by omega) (by omega) (by omega)) dX6_century_76 ?_
              have hdr := drawI_b zz.toNat k
              refine r_callV1v O (C_X6_turn hI hM _ _ _ _ _ _ _ _ _ _ _ _ _ _ _ _ (liveN v zz.toNat k) (okV_liveN hv _ _) hq (drawI zz.toNat k) (by omega) (by omega)) q_X6_151 (by rw [hM]; decide) (fs := _) rfl rfl rfl (by decide) (by decide) (Nat.le_of_ble_eq_true rfl) dX6_century_77 (fun zu77 hz77 => ?_)
              obtain ⟨s3, l3, hq3, rfl⟩ := hz77
              refine n_iinc O dX6_century_80 (by decide) rfl rfl ?_
              refine r_goto (tgt := 39) O dX6_century_83 (by decide) ?_
              exact G_chk (ih39 _ (by omega) (k + 1) _ _ ⟨by omega, hq3⟩ rfl) (zsc rfl (zsc rfl (zsc rfl (zsc rfl (zsc rfl zsn)))))
        exact G_chk (L39 _ 0 ss la ⟨by omega, hr⟩ rfl) (zsc rfl (zsc rfl (zsc rfl (zsc rfl (zsc rfl zsn)))))
      · skip
        refine r_iconst O dX6_century_30 ?_
        exact hE _ _ _ _ dX6_century_31 rfl (Or.inl ⟨by omega, rfl, rfl⟩)
