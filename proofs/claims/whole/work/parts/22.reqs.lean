set_option maxHeartbeats 4000000 in
theorem C_X6_isPassed {K : zK} (hI : zInj K) (hM : kN K = 11) (tx : Int → Int) (ty : Int) (td dr bg ss pa : Int → Int) (kn : Int) (im : Int → Int) (kp : Int) (ns : Int → Int) (nd ap la : Int) (hh tt : Int → Int) (v : SV) (hv : okV v) (hr : mR td ss v) (s : Nat) (hs : s < 128)  : zCi K yX6_isPassed cX6_isPassed 2 (some .boolean) 3 [.ref (kad K 0), .int (iI (s : Int))] (layM K tx ty td dr bg ss pa kn im kp ns nd ap la hh tt) (fun z u => z = letsV v s ∧ ∃ (y : Int) (s2 t2 : Int → Int) (w : Int), untilQ v s y ∧ whoP v s y w ∧ mR td s2 v ∧ u = (layM K tx ty td dr bg s2 pa kn im kp ns nd ap w hh t2)) := by
  obtain ⟨hn7, ham, hhe, hsa, hro, hfa, hm⟩ := id hv
  obtain ⟨r1, r2, r3, r4, r5, r6, rm⟩ := id hr
  have hpw := pow_b (qn v).toNat (by omega)
  refine zCi_in hI (by decide +kernel) (Nat.le_of_ble_eq_true rfl) (fun X O hE => ?_)
  refine n_aload_n O dX6_isPassed_0 rfl ?_
  refine n_iload_n O dX6_isPassed_1 rfl ?_
  refine r_callV1i O (C_X6_passesBy hI hM _ _ _ _ _ _ _ _ _ _ _ _ _ _ _ _ v hv hr s hs) q_X6_124 (by rw [hM]; decide) (fs := _) rfl rfl rfl (by decide) (by decide) (Nat.le_of_ble_eq_true rfl) dX6_isPassed_2 (fun zz2 zu2 hz2 => ?_)
  obtain ⟨huq, s2, t2, w, hr2, hwh, rfl⟩ := hz2
  have hub := untilQ_b hv huq
  have hul := untilQ_lets hv huq
  refine r_bipush O (by decide +kernel) dX6_isPassed_5 ?_
  refine r_icmp_eq (tgt := 14) O ⟨by omega, by omega⟩ ⟨by omega, by omega⟩ dX6_isPassed_7 (by decide) (fun hc7 => ?_) (fun hc7 => ?_)
  · skip
    refine r_iconst O dX6_isPassed_14 ?_
    exact hE _ _ _ _ dX6_isPassed_15 (nar01 (by omega)) ⟨by omega, _, _, _, _, huq, hwh, hr2, rfl⟩
  · skip
    refine r_iconst O dX6_isPassed_10 ?_
    refine r_goto (tgt := 15) O dX6_isPassed_11 (by decide) ?_
    exact hE _ _ _ _ dX6_isPassed_15 (nar01 (by omega)) ⟨by omega, _, _, _, _, huq, hwh, hr2, rfl⟩
set_option maxHeartbeats 4000000 in
theorem C_X6_passes {K : zK} (hI : zInj K) (hM : kN K = 11) (tx : Int → Int) (ty : Int) (td dr bg ss pa : Int → Int) (kn : Int) (im : Int → Int) (kp : Int) (ns : Int → Int) (nd ap la : Int) (hh tt : Int → Int) (v : SV) (hv : okV v) (hr : mR td ss v)  : zCi K yX6_passes cX6_passes 1 (some .int) 3 [.ref (kad K 0)] (layM K tx ty td dr bg ss pa kn im kp ns nd ap la hh tt) (fun z u => untilP v z ∧ ∃ (s2 h2 t2 : Int → Int) (w2 : Int), mR td s2 v ∧ u = (layM K tx ty td dr bg s2 pa kn im kp ns nd ap w2 h2 t2)) := by
  obtain ⟨hn7, ham, hhe, hsa, hro, hfa, hm⟩ := id hv
  obtain ⟨r1, r2, r3, r4, r5, r6, rm⟩ := id hr
  have hpw := pow_b (qn v).toNat (by omega)
  refine zCi_in hI (by decide +kernel) (Nat.le_of_ble_eq_true rfl) (fun X O hE => ?_)
  refine n_aload_n O dX6_passes_0 rfl ?_
  refine n_aload_n O dX6_passes_1 rfl ?_
  refine r_callV0i O (C_X6_all hI hM _ _ _ _ _ _ _ _ _ _ _ _ _ _ _ _ (qn v).toNat (by omega) (by omega)) q_X6_104 (by rw [hM]; decide) (fs := _) rfl rfl rfl (by decide) (by decide) (Nat.le_of_ble_eq_true rfl) dX6_passes_2 (fun zz2 zu2 hz2 => ?_)
  obtain ⟨rfl, rfl⟩ := hz2
  refine r_callV1i O (C_X6_passesBy hI hM _ _ _ _ _ _ _ _ _ _ _ _ _ _ _ _ v hv hr (2 ^ (qn v).toNat - 1) (by omega)) q_X6_124 (by rw [hM]; decide) (fs := _) rfl rfl rfl (by decide) (by decide) (Nat.le_of_ble_eq_true rfl) dX6_passes_5 (fun zz5 zu5 hz5 => ?_)
  obtain ⟨huq, s2, t2, w, hr2, hwh, rfl⟩ := hz5
  exact hE _ _ _ _ dX6_passes_8 rfl ⟨untilQ_all hv huq, _, _, _, _, hr2, rfl⟩
set_option maxHeartbeats 4000000 in
theorem C_X6_left {K : zK} (hI : zInj K) (hM : kN K = 11) (tx : Int → Int) (ty : Int) (td dr bg ss pa : Int → Int) (kn : Int) (im : Int → Int) (kp : Int) (ns : Int → Int) (nd ap la : Int) (hh tt : Int → Int) (v : SV) (hv : okV v) (hr : mR td ss v) (n : Int) (bn : zB n)  : zCi K yX6_left cX6_left 3 (some .int) 2 [.ref (kad K 0), .int (iI n)] (layM K tx ty td dr bg ss pa kn im kp ns nd ap la hh tt) (fun z u => ((n < 0 ∨ 20 < n) ∧ z = -1 ∧ u = (layM K tx ty td dr bg ss pa kn im kp ns nd ap la hh tt)) ∨ ((0 ≤ n ∧ n ≤ 20) ∧ z = qam (roundsV v n.toNat).1 ∧ ∃ (s2 h2 t2 : Int → Int) (w2 : Int), mR td s2 v ∧ u = (layM K tx ty td dr bg s2 pa kn im kp ns nd ap w2 h2 t2))) := by
  obtain ⟨hn7, ham, hhe, hsa, hro, hfa, hm⟩ := id hv
  obtain ⟨r1, r2, r3, r4, r5, r6, rm⟩ := id hr
  have hpw := pow_b (qn v).toNat (by omega)
  obtain ⟨bn1, bn2⟩ := id bn
  refine zCi_in hI (by decide +kernel) (Nat.le_of_ble_eq_true rfl) (fun X O hE => ?_)
  refine n_iload_n O dX6_left_0 rfl ?_
  refine r_iconst O dX6_left_1 ?_
  refine r_bipush O (by decide +kernel) dX6_left_2 ?_
  refine r_callS3i O (C_X6_in hI _ _ _ _ ⟨by omega, by omega⟩ ⟨by omega, by omega⟩ ⟨by omega, by omega⟩) q_X6_50 (by decide) (by decide) (Nat.le_of_ble_eq_true rfl) dX6_left_4 (fun zz4 zu4 hz4 => ?_)
  obtain ⟨hzi4, rfl⟩ := hz4
  have hic4 := inI_c hzi4
  refine r_if_ne (tgt := 12) O ⟨by omega, by omega⟩ dX6_left_7 (by decide) (fun hc7 => ?_) (fun hc7 => ?_)
  · skip
    refine n_aload_n O dX6_left_12 rfl ?_
    refine r_callV0v O (C_X6_holds hI hM _ _ _ _ _ _ _ _ _ _ _ _ _ _ _ _ ) q_X6_127 (by rw [hM]; decide) (fs := _) rfl rfl rfl (by decide) (by decide) (Nat.le_of_ble_eq_true rfl) dX6_left_13 (fun zu13 hz13 => ?_)
    obtain ⟨h2, hh2, rfl⟩ := hz13
    refine r_iconst O dX6_left_16 ?_
    refine n_istore_n O dX6_left_17 (by decide) rfl ?_
    have L18 : ∀ (zk : Nat) (k : Nat) (s1 : Int → Int) (lb : Int), ((k : Int) ≤ n ∧ mR td s1 (roundsV v k).1) → 20 - k = zk → G K X 3 18 [(0, .ref (kad K 0)), (1, .int (iI n)), (2, .int (iI (k : Int)))] [] (layM K tx ty td dr bg s1 pa kn im kp ns nd ap lb h2 tt) := by
      intro zk
      induction zk using Nat.strongRecOn with
      | ind zk ih18 =>
        intro k s1 lb hinv hk
        obtain ⟨hk, hq⟩ := hinv
        refine n_iload_n O dX6_left_18 rfl ?_
        refine n_iload_n O dX6_left_19 rfl ?_
        refine r_icmp_ge (tgt := 38) O ⟨by omega, by omega⟩ ⟨by omega, by omega⟩ dX6_left_20 (by decide) (fun hc20 => ?_) (fun hc20 => ?_)
        · skip
          refine n_aload_n O dX6_left_38 rfl ?_
          refine m_get_ss O hM fl_X6_22 dX6_left_39 ?_
          refine r_bipush O (by decide +kernel) dX6_left_42 ?_
          refine m_ld_ss O hM (by omega) (by omega) dX6_left_44 ?_
          refine n_istore_n O dX6_left_45 (by decide) rfl ?_
          refine n_aload_n O dX6_left_46 rfl ?_
          refine r_callV0v O (C_X6_lets hI hM _ _ _ _ _ _ _ _ _ _ _ _ _ _ _ _ ) q_X6_130 (by rw [hM]; decide) (fs := _) rfl rfl rfl (by decide) (by decide) (Nat.le_of_ble_eq_true rfl) dX6_left_47 (fun zu47 hz47 => ?_)
          obtain ⟨s5, hs5, rfl⟩ := hz47
          have hr5 := mR_31 hr (by omega) (fun y h0 h1 => (hs5 y h0 h1).trans (hh2 y h0 h1))
          refine n_iload_n O dX6_left_50 rfl ?_
          exact hE _ _ _ _ dX6_left_51 rfl (Or.inr ⟨by omega, by (have e : n.toNat = k := by omega); rw [e]; exact hq.2.1, _, _, _, _, hr5, rfl⟩)
        · skip
          refine n_aload_n O dX6_left_23 rfl ?_
          refine n_aload_n O dX6_left_24 rfl ?_
          refine r_callV0i O (C_X6_all hI hM _ _ _ _ _ _ _ _ _ _ _ _ _ _ _ _ (qn v).toNat (by omega) (by omega)) q_X6_104 (by rw [hM]; decide) (fs := _) rfl rfl rfl (by decide) (by decide) (Nat.le_of_ble_eq_true rfl) dX6_left_25 (fun zz25 zu25 hz25 => ?_)
          obtain ⟨rfl, rfl⟩ := hz25
          refine r_callV1i O (C_X6_eats hI hM _ _ _ _ _ _ _ _ _ _ _ _ _ _ _ _ (roundsV v k).1 (okV_roundsV hv k) hq (2 ^ (qn v).toNat - 1) (by omega)) q_X6_107 (by rw [hM]; decide) (fs := _) rfl rfl rfl (by decide) (by decide) (Nat.le_of_ble_eq_true rfl) dX6_left_28 (fun zz28 zu28 hz28 => ?_)
          obtain ⟨_, s3, hq3, rfl⟩ := hz28
          have hra := roundQ_all (okV_roundsV hv k)
          rw [roundsV_n] at hra
          rw [hra] at hq3
          refine r_pop O rfl dX6_left_31 ?_
          refine n_iinc O dX6_left_32 (by decide) rfl rfl ?_
          refine r_goto (tgt := 18) O dX6_left_35 (by decide) ?_
          exact G_chk (ih18 _ (by omega) (k + 1) _ _ ⟨by omega, hq3⟩ rfl) (zsc rfl (zsc rfl (zsc rfl zsn)))
    exact G_chk (L18 _ 0 ss la ⟨by omega, hr⟩ rfl) (zsc rfl (zsc rfl (zsc rfl zsn)))
  · skip
    refine r_iconst O dX6_left_10 ?_
    exact hE _ _ _ _ dX6_left_11 rfl (Or.inl ⟨by omega, rfl, rfl⟩)
set_option maxHeartbeats 4000000 in
theorem C_X6_scraper {K : zK} (hI : zInj K) (hM : kN K = 11) (tx : Int → Int) (ty : Int) (td dr bg ss pa : Int → Int) (kn : Int) (im : Int → Int) (kp : Int) (ns : Int → Int) (nd ap la : Int) (hh tt : Int → Int) (v : SV) (hv : okV v) (hr : mR td ss v)  : zCi K yX6_scraper cX6_scraper 1 (some .int) 4 [.ref (kad K 0)] (layM K tx ty td dr bg ss pa kn im kp ns nd ap la hh tt) (fun z u => z = (roundsV v (qro v).toNat).2 ∧ ∃ (s2 h2 t2 : Int → Int) (w2 : Int), mR td s2 v ∧ u = (layM K tx ty td dr bg s2 pa kn im kp ns nd ap w2 h2 t2)) := by
  obtain ⟨hn7, ham, hhe, hsa, hro, hfa, hm⟩ := id hv
  obtain ⟨r1, r2, r3, r4, r5, r6, rm⟩ := id hr
  have hpw := pow_b (qn v).toNat (by omega)
  refine zCi_in hI (by decide +kernel) (Nat.le_of_ble_eq_true rfl) (fun X O hE => ?_)
  refine n_aload_n O dX6_scraper_0 rfl ?_
  refine n_aload_n O dX6_scraper_1 rfl ?_
  refine r_callV0i O (C_X6_all hI hM _ _ _ _ _ _ _ _ _ _ _ _ _ _ _ _ (qn v).toNat (by omega) (by omega)) q_X6_104 (by rw [hM]; decide) (fs := _) rfl rfl rfl (by decide) (by decide) (Nat.le_of_ble_eq_true rfl) dX6_scraper_2 (fun zz2 zu2 hz2 => ?_)
  obtain ⟨rfl, rfl⟩ := hz2
  refine r_callV1i O (C_X6_isPassed hI hM _ _ _ _ _ _ _ _ _ _ _ _ _ _ _ _ v hv hr (2 ^ (qn v).toNat - 1) (by omega)) q_X6_133 (by rw [hM]; decide) (fs := _) rfl rfl rfl (by decide) (by decide) (Nat.le_of_ble_eq_true rfl) dX6_scraper_5 (fun zz5 zu5 hz5 => ?_)
  obtain ⟨hzp5, y5, s5, t5, w5, huq5, hwh5, hmr5, rfl⟩ := hz5
  have h015 := letsV_01 v (2 ^ (qn v).toNat - 1)
  have hul := untilQ_lets hv huq5
  have hwa := who_all hv huq5 hwh5
  refine r_if_eq (tgt := 18) O ⟨by omega, by omega⟩ dX6_scraper_8 (by decide) (fun hc8 => ?_) (fun hc8 => ?_)
  · skip
    refine r_bipush O (by decide +kernel) dX6_scraper_18 ?_
    exact hE _ _ _ _ dX6_scraper_20 rfl ⟨by first | exact (hwa.2 (by omega)).symm | exact (hwa.1 (by omega)).symm, _, _, _, _, hmr5, rfl⟩
  · skip
    refine n_aload_n O dX6_scraper_11 rfl ?_
    refine m_get_la O hM fl_X6_95 dX6_scraper_12 ?_
    refine r_goto (tgt := 20) O dX6_scraper_15 (by decide) ?_
    exact hE _ _ _ _ dX6_scraper_20 rfl ⟨by first | exact (hwa.2 (by omega)).symm | exact (hwa.1 (by omega)).symm, _, _, _, _, hmr5, rfl⟩
set_option maxHeartbeats 4000000 in
theorem C_X6_spoil {K : zK} (hI : zInj K) (hM : kN K = 11) (tx : Int → Int) (ty : Int) (td dr bg ss pa : Int → Int) (kn : Int) (im : Int → Int) (kp : Int) (ns : Int → Int) (nd ap la : Int) (hh tt : Int → Int) (v : SV) (hv : okV v) (hr : mR td ss v)  : zCi K yX6_spoil cX6_spoil 4 (some .int) 4 [.ref (kad K 0)] (layM K tx ty td dr bg ss pa kn im kp ns nd ap la hh tt) (fun z u => spoilP v z ∧ ∃ (s2 h2 t2 : Int → Int) (w2 : Int), mR td s2 v ∧ u = (layM K tx ty td dr bg s2 pa kn im kp ns nd ap w2 h2 t2)) := by
  obtain ⟨hn7, ham, hhe, hsa, hro, hfa, hm⟩ := id hv
  obtain ⟨r1, r2, r3, r4, r5, r6, rm⟩ := id hr
  have hpw := pow_b (qn v).toNat (by omega)
  refine zCi_in hI (by decide +kernel) (Nat.le_of_ble_eq_true rfl) (fun X O hE => ?_)
  refine n_aload_n O dX6_spoil_0 rfl ?_
  refine m_get_ss O hM fl_X6_22 dX6_spoil_1 ?_
  refine r_bipush O (by decide +kernel) dX6_spoil_4 ?_
  refine m_ld_ss O hM (by omega) (by omega) dX6_spoil_6 ?_
  refine n_istore_n O dX6_spoil_7 (by decide) rfl ?_
  refine r_bipush O (by decide +kernel) dX6_spoil_8 ?_
  refine n_istore_n O dX6_spoil_10 (by decide) rfl ?_
  refine r_bipush O (by decide +kernel) dX6_spoil_11 ?_
  refine n_iload_n O dX6_spoil_13 rfl ?_
  refine r_isub O dX6_spoil_14 ?_
  refine n_istore_n O dX6_spoil_15 (by decide) rfl ?_
  have L16 : ∀ (zk : Nat) (m x fd : Int) (s1 t1 : Int → Int) (lb : Int), ((-1 ≤ m ∧ m ≤ 9 - qsa v) ∧ spoilJ v m fd ∧ mR td s1 (saV v x)) → (m + 1).toNat = zk → G K X 4 16 [(0, .ref (kad K 0)), (1, .int (iI (ss 30))), (2, .int (iI fd)), (3, .int (iI m))] [] (layM K tx ty td dr bg s1 pa kn im kp ns nd ap lb hh t1) := by
    intro zk
    induction zk using Nat.strongRecOn with
    | ind zk ih16 =>
      intro m x fd s1 t1 lb hinv hk
      obtain ⟨hm5, hj, hmd⟩ := hinv
      have e30 : ss 30 + m = qsa v + m := by omega
      refine n_iload_n O dX6_spoil_16 rfl ?_
      refine r_if_lt (tgt := 53) O ⟨by omega, by omega⟩ dX6_spoil_17 (by decide) (fun hc17 => ?_) (fun hc17 => ?_)
      · skip
        refine n_aload_n O dX6_spoil_53 rfl ?_
        refine m_get_ss O hM fl_X6_22 dX6_spoil_54 ?_
        refine r_bipush O (by decide +kernel) dX6_spoil_57 ?_
        refine n_iload_n O dX6_spoil_59 rfl ?_
        refine m_st_ss O hM (by omega) (by omega) dX6_spoil_60 ?_
        refine n_iload_n O dX6_spoil_61 rfl ?_
        exact hE _ _ _ _ dX6_spoil_62 rfl ⟨spoilJ_e hj (by omega), _, _, _, _, by have e := mR_sa hmd (by omega) (ss 30); rw [r4] at e ⊢; exact e, rfl⟩
      · skip
        refine n_aload_n O dX6_spoil_20 rfl ?_
        refine m_get_ss O hM fl_X6_22 dX6_spoil_21 ?_
        refine r_bipush O (by decide +kernel) dX6_spoil_24 ?_
        refine n_iload_n O dX6_spoil_26 rfl ?_
        refine n_iload_n O dX6_spoil_27 rfl ?_
        refine r_iadd O dX6_spoil_28 ?_
        refine m_st_ss O hM (by omega) (by omega) dX6_spoil_29 ?_
        refine n_aload_n O dX6_spoil_30 rfl ?_
        refine n_aload_n O dX6_spoil_31 rfl ?_
        refine r_callV0i O (C_X6_all hI hM _ _ _ _ _ _ _ _ _ _ _ _ _ _ _ _ (qn v).toNat (by omega) (by omega)) q_X6_104 (by rw [hM]; decide) (fs := _) rfl rfl rfl (by decide) (by decide) (Nat.le_of_ble_eq_true rfl) dX6_spoil_32 (fun zz32 zu32 hz32 => ?_)
        obtain ⟨rfl, rfl⟩ := hz32
        refine r_callV1i O (C_X6_isPassed hI hM _ _ _ _ _ _ _ _ _ _ _ _ _ _ _ _ (saV v (ss 30 + m)) (okV_saV hv (x := ss 30 + m) (by omega) (by omega)) (mR_sa hmd (by omega) _) (2 ^ (qn v).toNat - 1) (by omega)) q_X6_133 (by rw [hM]; decide) (fs := _) rfl rfl rfl (by decide) (by decide) (Nat.le_of_ble_eq_true rfl) dX6_spoil_35 (fun zz35 zu35 hz35 => ?_)
        obtain ⟨hzp35, y35, s35, t35, w35, huq35, hwh35, hmr35, rfl⟩ := hz35
        have h0135 := letsV_01 (saV v (ss 30 + m)) (2 ^ (qn v).toNat - 1)
        have hla35 : letsV (saV v (ss 30 + m)) (2 ^ (qn v).toNat - 1) = passI (saV v (ss 30 + m)) := lets_all (okV_saV hv (x := ss 30 + m) (by omega) (by omega))
        rw [hla35] at hzp35 h0135
        refine r_if_eq (tgt := 45) O ⟨by omega, by omega⟩ dX6_spoil_38 (by decide) (fun hc38 => ?_) (fun hc38 => ?_)
        · skip
          refine n_iload_n O dX6_spoil_45 rfl ?_
          refine n_istore_n O dX6_spoil_46 (by decide) rfl ?_
          refine n_iinc O dX6_spoil_47 (by decide) rfl rfl ?_
          refine r_goto (tgt := 16) O dX6_spoil_50 (by decide) ?_
          exact G_chk (ih16 _ (by omega) (m - 1) _ _ _ _ _ (by rw [e30] at hzp35 h0135; first | exact ⟨by omega, spoilJ_y hj (by omega), hmr35⟩ | exact ⟨by omega, spoilJ_n (by omega) (by omega), hmr35⟩) rfl) (zsc rfl (zsc rfl (zsc rfl (zsc rfl zsn))))
        · skip
          refine n_iload_n O dX6_spoil_41 rfl ?_
          refine r_goto (tgt := 46) O dX6_spoil_42 (by decide) ?_
          refine n_istore_n O dX6_spoil_46 (by decide) rfl ?_
          refine n_iinc O dX6_spoil_47 (by decide) rfl rfl ?_
          refine r_goto (tgt := 16) O dX6_spoil_50 (by decide) ?_
          exact G_chk (ih16 _ (by omega) (m - 1) _ _ _ _ _ (by rw [e30] at hzp35 h0135; first | exact ⟨by omega, spoilJ_y hj (by omega), hmr35⟩ | exact ⟨by omega, spoilJ_n (by omega) (by omega), hmr35⟩) rfl) (zsc rfl (zsc rfl (zsc rfl (zsc rfl zsn))))
  exact G_chk (L16 _ (9 - ss 30) (qsa v) (-4) ss tt la ⟨by omega, Or.inl ⟨rfl, fun j j0 j1 => by omega⟩, hr⟩ rfl) (zsc rfl (zsc rfl (zsc rfl (zsc rfl zsn))))
set_option maxHeartbeats 4000000 in
theorem C_X6_waits {K : zK} (hI : zInj K) (hM : kN K = 11) (tx : Int → Int) (ty : Int) (td dr bg ss pa : Int → Int) (kn : Int) (im : Int → Int) (kp : Int) (ns : Int → Int) (nd ap la : Int) (hh tt : Int → Int) (v : SV) (hv : okV v) (hr : mR td ss v)  : zCi K yX6_waits cX6_waits 4 (some .int) 4 [.ref (kad K 0)] (layM K tx ty td dr bg ss pa kn im kp ns nd ap la hh tt) (fun z u => waitsP v z ∧ ∃ (s2 h2 t2 : Int → Int) (w2 : Int), mR td s2 v ∧ u = (layM K tx ty td dr bg s2 pa kn im kp ns nd ap w2 h2 t2)) := by
  obtain ⟨hn7, ham, hhe, hsa, hro, hfa, hm⟩ := id hv
  obtain ⟨r1, r2, r3, r4, r5, r6, rm⟩ := id hr
  have hpw := pow_b (qn v).toNat (by omega)
  refine zCi_in hI (by decide +kernel) (Nat.le_of_ble_eq_true rfl) (fun X O hE => ?_)
  refine n_aload_n O dX6_waits_0 rfl ?_
  refine m_get_ss O hM fl_X6_22 dX6_waits_1 ?_
  refine r_bipush O (by decide +kernel) dX6_waits_4 ?_
  refine m_ld_ss O hM (by omega) (by omega) dX6_waits_6 ?_
  refine n_istore_n O dX6_waits_7 (by decide) rfl ?_
  refine r_bipush O (by decide +kernel) dX6_waits_8 ?_
  refine n_istore_n O dX6_waits_10 (by decide) rfl ?_
  refine r_bipush O (by decide +kernel) dX6_waits_11 ?_
  refine n_istore_n O dX6_waits_13 (by decide) rfl ?_
  have L14 : ∀ (zk : Nat) (m x fd : Int) (s1 t1 : Int → Int) (lb : Int), ((-1 ≤ m ∧ m ≤ 9) ∧ waitsJ v m fd ∧ mR td s1 (heV v x)) → (m + 1).toNat = zk → G K X 4 14 [(0, .ref (kad K 0)), (1, .int (iI (ss 29))), (2, .int (iI fd)), (3, .int (iI m))] [] (layM K tx ty td dr bg s1 pa kn im kp ns nd ap lb hh t1) := by
    intro zk
    induction zk using Nat.strongRecOn with
    | ind zk ih14 =>
      intro m x fd s1 t1 lb hinv hk
      obtain ⟨hm5, hj, hmd⟩ := hinv
      refine n_iload_n O dX6_waits_14 rfl ?_
      refine r_if_lt (tgt := 60) O ⟨by omega, by omega⟩ dX6_waits_15 (by decide) (fun hc15 => ?_) (fun hc15 => ?_)
      · skip
        refine n_aload_n O dX6_waits_60 rfl ?_
        refine m_get_ss O hM fl_X6_22 dX6_waits_61 ?_
        refine r_bipush O (by decide +kernel) dX6_waits_64 ?_
        refine n_iload_n O dX6_waits_66 rfl ?_
        refine m_st_ss O hM (by omega) (by omega) dX6_waits_67 ?_
        refine n_iload_n O dX6_waits_68 rfl ?_
        exact hE _ _ _ _ dX6_waits_69 rfl ⟨waitsJ_e hj (by omega), _, _, _, _, by have e := mR_he hmd (by omega) (ss 29); rw [r3] at e ⊢; exact e, rfl⟩
      · skip
        refine n_aload_n O dX6_waits_18 rfl ?_
        refine m_get_ss O hM fl_X6_22 dX6_waits_19 ?_
        refine r_bipush O (by decide +kernel) dX6_waits_22 ?_
        refine n_iload_n O dX6_waits_24 rfl ?_
        refine n_iload_n O dX6_waits_25 rfl ?_
        refine r_icmp_ge (tgt := 33) O ⟨by omega, by omega⟩ ⟨by omega, by omega⟩ dX6_waits_26 (by decide) (fun hc26 => ?_) (fun hc26 => ?_)
        · skip
          refine n_iload_n O dX6_waits_33 rfl ?_
          refine n_iload_n O dX6_waits_34 rfl ?_
          refine r_isub O dX6_waits_35 ?_
          refine m_st_ss O hM (by omega) (by omega) dX6_waits_36 ?_
          refine n_aload_n O dX6_waits_37 rfl ?_
          refine n_aload_n O dX6_waits_38 rfl ?_
          refine r_callV0i O (C_X6_all hI hM _ _ _ _ _ _ _ _ _ _ _ _ _ _ _ _ (qn v).toNat (by omega) (by omega)) q_X6_104 (by rw [hM]; decide) (fs := _) rfl rfl rfl (by decide) (by decide) (Nat.le_of_ble_eq_true rfl) dX6_waits_39 (fun zz39 zu39 hz39 => ?_)
          obtain ⟨rfl, rfl⟩ := hz39
          refine r_callV1i O (C_X6_isPassed hI hM _ _ _ _ _ _ _ _ _ _ _ _ _ _ _ _ (heV v (max (qhe v - m) 0)) (okV_heV hv (x := max (qhe v - m) 0) (by omega) (by omega)) (by first | ((have e9 : max (qhe v - m) 0 = 0 := by omega); rw [e9]; exact mR_he hmd (by omega) 0) | ((have e9 : max (qhe v - m) 0 = ss 29 - m := by omega); rw [e9]; exact mR_he hmd (by omega) _)) (2 ^ (qn v).toNat - 1) (by omega)) q_X6_133 (by rw [hM]; decide) (fs := _) rfl rfl rfl (by decide) (by decide) (Nat.le_of_ble_eq_true rfl) dX6_waits_42 (fun zz42 zu42 hz42 => ?_)
          obtain ⟨hzp42, y42, s42, t42, w42, huq42, hwh42, hmr42, rfl⟩ := hz42
          have h0142 := letsV_01 (heV v (max (qhe v - m) 0)) (2 ^ (qn v).toNat - 1)
          have hla42 : letsV (heV v (max (qhe v - m) 0)) (2 ^ (qn v).toNat - 1) = passI (heV v (max (qhe v - m) 0)) := lets_all (okV_heV hv (x := max (qhe v - m) 0) (by omega) (by omega))
          rw [hla42] at hzp42 h0142
          refine r_if_eq (tgt := 52) O ⟨by omega, by omega⟩ dX6_waits_45 (by decide) (fun hc45 => ?_) (fun hc45 => ?_)
          · skip
            refine n_iload_n O dX6_waits_52 rfl ?_
            refine n_istore_n O dX6_waits_53 (by decide) rfl ?_
            refine n_iinc O dX6_waits_54 (by decide) rfl rfl ?_
            refine r_goto (tgt := 14) O dX6_waits_57 (by decide) ?_
            exact G_chk (ih14 _ (by omega) (m - 1) _ _ _ _ _ (by first | exact ⟨by omega, waitsJ_n hj (by omega), hmr42⟩ | exact ⟨by omega, waitsJ_y (by omega) (by omega), hmr42⟩) rfl) (zsc rfl (zsc rfl (zsc rfl (zsc rfl zsn))))
          · skip
            refine n_iload_n O dX6_waits_48 rfl ?_
            refine r_goto (tgt := 53) O dX6_waits_49 (by decide) ?_
            refine n_istore_n O dX6_waits_53 (by decide) rfl ?_
            refine n_iinc O dX6_waits_54 (by decide) rfl rfl ?_
            refine r_goto (tgt := 14) O dX6_waits_57 (by decide) ?_
            exact G_chk (ih14 _ (by omega) (m - 1) _ _ _ _ _ (by first | exact ⟨by omega, waitsJ_n hj (by omega), hmr42⟩ | exact ⟨by omega, waitsJ_y (by omega) (by omega), hmr42⟩) rfl) (zsc rfl (zsc rfl (zsc rfl (zsc rfl zsn))))
        · skip
          refine r_iconst O dX6_waits_29 ?_
          refine r_goto (tgt := 36) O dX6_waits_30 (by decide) ?_
          refine m_st_ss O hM (by omega) (by omega) dX6_waits_36 ?_
          refine n_aload_n O dX6_waits_37 rfl ?_
          refine n_aload_n O dX6_waits_38 rfl ?_
          refine r_callV0i O (C_X6_all hI hM _ _ _ _ _ _ _ _ _ _ _ _ _ _ _ _ (qn v).toNat (by omega) (by omega)) q_X6_104 (by rw [hM]; decide) (fs := _) rfl rfl rfl (by decide) (by decide) (Nat.le_of_ble_eq_true rfl) dX6_waits_39 (fun zz39 zu39 hz39 => ?_)
          obtain ⟨rfl, rfl⟩ := hz39
          refine r_callV1i O (C_X6_isPassed hI hM _ _ _ _ _ _ _ _ _ _ _ _ _ _ _ _ (heV v (max (qhe v - m) 0)) (okV_heV hv (x := max (qhe v - m) 0) (by omega) (by omega)) (by first | ((have e9 : max (qhe v - m) 0 = 0 := by omega); rw [e9]; exact mR_he hmd (by omega) 0) | ((have e9 : max (qhe v - m) 0 = ss 29 - m := by omega); rw [e9]; exact mR_he hmd (by omega) _)) (2 ^ (qn v).toNat - 1) (by omega)) q_X6_133 (by rw [hM]; decide) (fs := _) rfl rfl rfl (by decide) (by decide) (Nat.le_of_ble_eq_true rfl) dX6_waits_42 (fun zz42 zu42 hz42 => ?_)
          obtain ⟨hzp42, y42, s42, t42, w42, huq42, hwh42, hmr42, rfl⟩ := hz42
          have h0142 := letsV_01 (heV v (max (qhe v - m) 0)) (2 ^ (qn v).toNat - 1)
          have hla42 : letsV (heV v (max (qhe v - m) 0)) (2 ^ (qn v).toNat - 1) = passI (heV v (max (qhe v - m) 0)) := lets_all (okV_heV hv (x := max (qhe v - m) 0) (by omega) (by omega))
          rw [hla42] at hzp42 h0142
          refine r_if_eq (tgt := 52) O ⟨by omega, by omega⟩ dX6_waits_45 (by decide) (fun hc45 => ?_) (fun hc45 => ?_)
          · skip
            refine n_iload_n O dX6_waits_52 rfl ?_
            refine n_istore_n O dX6_waits_53 (by decide) rfl ?_
            refine n_iinc O dX6_waits_54 (by decide) rfl rfl ?_
            refine r_goto (tgt := 14) O dX6_waits_57 (by decide) ?_
            exact G_chk (ih14 _ (by omega) (m - 1) _ _ _ _ _ (by first | exact ⟨by omega, waitsJ_n hj (by omega), hmr42⟩ | exact ⟨by omega, waitsJ_y (by omega) (by omega), hmr42⟩) rfl) (zsc rfl (zsc rfl (zsc rfl (zsc rfl zsn))))
          · skip
            refine n_iload_n O dX6_waits_48 rfl ?_
            refine r_goto (tgt := 53) O dX6_waits_49 (by decide) ?_
            refine n_istore_n O dX6_waits_53 (by decide) rfl ?_
            refine n_iinc O dX6_waits_54 (by decide) rfl rfl ?_
            refine r_goto (tgt := 14) O dX6_waits_57 (by decide) ?_
            exact G_chk (ih14 _ (by omega) (m - 1) _ _ _ _ _ (by first | exact ⟨by omega, waitsJ_n hj (by omega), hmr42⟩ | exact ⟨by omega, waitsJ_y (by omega) (by omega), hmr42⟩) rfl) (zsc rfl (zsc rfl (zsc rfl (zsc rfl zsn))))
  exact G_chk (L14 _ 9 (qhe v) (-4) ss tt la ⟨by omega, Or.inl ⟨rfl, fun j j0 j1 => by omega⟩, hr⟩ rfl) (zsc rfl (zsc rfl (zsc rfl (zsc rfl zsn))))
set_option maxHeartbeats 4000000 in
theorem C_X6_most {K : zK} (hI : zInj K) (hM : kN K = 11) (tx : Int → Int) (ty : Int) (td dr bg ss pa : Int → Int) (kn : Int) (im : Int → Int) (kp : Int) (ns : Int → Int) (nd ap la : Int) (hh tt : Int → Int) (v : SV) (hv : okV v) (hr : mR td ss v)  : zCi K yX6_most cX6_most 4 (some .int) 4 [.ref (kad K 0)] (layM K tx ty td dr bg ss pa kn im kp ns nd ap la hh tt) (fun z u => z = min 99 (reachA v (qn v).toNat) ∧ ∃ (s2 h2 t2 : Int → Int) (w2 : Int), mR td s2 v ∧ u = (layM K tx ty td dr bg s2 pa kn im kp ns nd ap w2 h2 t2)) := by
  obtain ⟨hn7, ham, hhe, hsa, hro, hfa, hm⟩ := id hv
  obtain ⟨r1, r2, r3, r4, r5, r6, rm⟩ := id hr
  have hpw := pow_b (qn v).toNat (by omega)
  have hra := reachA_b hv (qn v).toNat (by omega)
  refine zCi_in hI (by decide +kernel) (Nat.le_of_ble_eq_true rfl) (fun X O hE => ?_)
  refine n_aload_n O dX6_most_0 rfl ?_
  refine m_get_ss O hM fl_X6_22 dX6_most_1 ?_
  refine r_bipush O (by decide +kernel) dX6_most_4 ?_
  refine m_ld_ss O hM (by omega) (by omega) dX6_most_6 ?_
  refine n_istore_n O dX6_most_7 (by decide) rfl ?_
  refine r_iconst O dX6_most_8 ?_
  refine n_istore_n O dX6_most_9 (by decide) rfl ?_
  refine r_iconst O dX6_most_10 ?_
  refine n_istore_n O dX6_most_11 (by decide) rfl ?_
  have L12 : ∀ (zk : Nat) (a x fd : Int) (s1 t1 : Int → Int) (lb : Int), ((1 ≤ a ∧ a ≤ 100) ∧ fd = min (a - 1) (reachA v (qn v).toNat) ∧ mR td s1 (amV v x)) → (100 - a).toNat = zk → G K X 4 12 [(0, .ref (kad K 0)), (1, .int (iI (ss 28))), (2, .int (iI fd)), (3, .int (iI a))] [] (layM K tx ty td dr bg s1 pa kn im kp ns nd ap lb hh t1) := by
    intro zk
    induction zk using Nat.strongRecOn with
    | ind zk ih12 =>
      intro a x fd s1 t1 lb hinv hk
      obtain ⟨ha5, hj, hmd⟩ := hinv
      refine n_iload_n O dX6_most_12 rfl ?_
      refine r_bipush O (by decide +kernel) dX6_most_13 ?_
      refine r_icmp_gt (tgt := 49) O ⟨by omega, by omega⟩ ⟨by omega, by omega⟩ dX6_most_15 (by decide) (fun hc15 => ?_) (fun hc15 => ?_)
      · skip
        refine n_aload_n O dX6_most_49 rfl ?_
        refine m_get_ss O hM fl_X6_22 dX6_most_50 ?_
        refine r_bipush O (by decide +kernel) dX6_most_53 ?_
        refine n_iload_n O dX6_most_55 rfl ?_
        refine m_st_ss O hM (by omega) (by omega) dX6_most_56 ?_
        refine n_iload_n O dX6_most_57 rfl ?_
        exact hE _ _ _ _ dX6_most_58 rfl ⟨by omega, _, _, _, _, by have e := mR_am hmd (by omega) (ss 28); rw [r2] at e ⊢; exact e, rfl⟩
      · skip
        refine n_aload_n O dX6_most_18 rfl ?_
        refine m_get_ss O hM fl_X6_22 dX6_most_19 ?_
        refine r_bipush O (by decide +kernel) dX6_most_22 ?_
        refine n_iload_n O dX6_most_24 rfl ?_
        refine m_st_ss O hM (by omega) (by omega) dX6_most_25 ?_
        refine n_aload_n O dX6_most_26 rfl ?_
        refine n_aload_n O dX6_most_27 rfl ?_
        refine r_callV0i O (C_X6_all hI hM _ _ _ _ _ _ _ _ _ _ _ _ _ _ _ _ (qn v).toNat (by omega) (by omega)) q_X6_104 (by rw [hM]; decide) (fs := _) rfl rfl rfl (by decide) (by decide) (Nat.le_of_ble_eq_true rfl) dX6_most_28 (fun zz28 zu28 hz28 => ?_)
        obtain ⟨rfl, rfl⟩ := hz28
        refine r_callV1i O (C_X6_isPassed hI hM _ _ _ _ _ _ _ _ _ _ _ _ _ _ _ _ (amV v a) (okV_amV hv (x := a) (by omega) (by omega)) (mR_am hmd (by omega) _) (2 ^ (qn v).toNat - 1) (by omega)) q_X6_133 (by rw [hM]; decide) (fs := _) rfl rfl rfl (by decide) (by decide) (Nat.le_of_ble_eq_true rfl) dX6_most_31 (fun zz31 zu31 hz31 => ?_)
        obtain ⟨hzp31, y31, s31, t31, w31, huq31, hwh31, hmr31, rfl⟩ := hz31
        have h0131 := letsV_01 (amV v a) (2 ^ (qn v).toNat - 1)
        have hla31 : letsV (amV v a) (2 ^ (qn v).toNat - 1) = passI (amV v a) := lets_all (okV_amV hv (x := a) (by omega) (by omega))
        rw [hla31] at hzp31 h0131
        refine r_if_eq (tgt := 41) O ⟨by omega, by omega⟩ dX6_most_34 (by decide) (fun hc34 => ?_) (fun hc34 => ?_)
        · skip
          refine n_iload_n O dX6_most_41 rfl ?_
          refine n_istore_n O dX6_most_42 (by decide) rfl ?_
          refine n_iinc O dX6_most_43 (by decide) rfl rfl ?_
          refine r_goto (tgt := 12) O dX6_most_46 (by decide) ?_
          exact G_chk (ih12 _ (by omega) (a + 1) _ _ _ _ _ (by have hpa := passI_am v a; exact ⟨by omega, by omega, hmr31⟩) rfl) (zsc rfl (zsc rfl (zsc rfl (zsc rfl zsn))))
        · skip
          refine n_iload_n O dX6_most_37 rfl ?_
          refine r_goto (tgt := 42) O dX6_most_38 (by decide) ?_
          refine n_istore_n O dX6_most_42 (by decide) rfl ?_
          refine n_iinc O dX6_most_43 (by decide) rfl rfl ?_
          refine r_goto (tgt := 12) O dX6_most_46 (by decide) ?_
          exact G_chk (ih12 _ (by omega) (a + 1) _ _ _ _ _ (by have hpa := passI_am v a; exact ⟨by omega, by omega, hmr31⟩) rfl) (zsc rfl (zsc rfl (zsc rfl (zsc rfl zsn))))
  exact G_chk (L12 _ 1 (qam v) 0 ss tt la ⟨by omega, by omega, hr⟩ rfl) (zsc rfl (zsc rfl (zsc rfl (zsc rfl zsn))))
set_option maxHeartbeats 4000000 in
theorem C_X6_fasts {K : zK} (hI : zInj K) (hM : kN K = 11) (tx : Int → Int) (ty : Int) (td dr bg ss pa : Int → Int) (kn : Int) (im : Int → Int) (kp : Int) (ns : Int → Int) (nd ap la : Int) (hh tt : Int → Int) (v : SV) (hv : okV v) (hr : mR td ss v)  : zCi K yX6_fasts cX6_fasts 3 (some .int) 4 [.ref (kad K 0)] (layM K tx ty td dr bg ss pa kn im kp ns nd ap la hh tt) (fun z u => fastsP v z ∧ ∃ (s2 h2 t2 : Int → Int) (w2 : Int), mR td s2 v ∧ u = (layM K tx ty td dr bg s2 pa kn im kp ns nd ap w2 h2 t2)) := by
  obtain ⟨hn7, ham, hhe, hsa, hro, hfa, hm⟩ := id hv
  obtain ⟨r1, r2, r3, r4, r5, r6, rm⟩ := id hr
  have hpw := pow_b (qn v).toNat (by omega)
  refine zCi_in hI (by decide +kernel) (Nat.le_of_ble_eq_true rfl) (fun X O hE => ?_)
  refine n_aload_n O dX6_fasts_0 rfl ?_
  refine r_callV0v O (C_X6_holds hI hM _ _ _ _ _ _ _ _ _ _ _ _ _ _ _ _ ) q_X6_127 (by rw [hM]; decide) (fs := _) rfl rfl rfl (by decide) (by decide) (Nat.le_of_ble_eq_true rfl) dX6_fasts_1 (fun zu1 hz1 => ?_)
  obtain ⟨h2, hh2, rfl⟩ := hz1
  refine r_bipush O (by decide +kernel) dX6_fasts_4 ?_
  refine n_istore_n O dX6_fasts_6 (by decide) rfl ?_
  refine r_iconst O dX6_fasts_7 ?_
  refine n_istore_n O dX6_fasts_8 (by decide) rfl ?_
  have L9 : ∀ (zk : Nat) (k : Nat) (fd : Int) (s1 t1 : Int → Int) (lb : Int), (k ≤ 11 ∧ fastsJ v k fd ∧ mR td s1 (fastK v k) ∧ (-4 ≤ fd ∧ fd ≤ 10)) → 11 - k = zk → G K X 3 9 [(0, .ref (kad K 0)), (1, .int (iI fd)), (2, .int (iI (k : Int)))] [] (layM K tx ty td dr bg s1 pa kn im kp ns nd ap lb h2 t1) := by
    intro zk
    induction zk using Nat.strongRecOn with
    | ind zk ih9 =>
      intro k fd s1 t1 lb hinv hk
      obtain ⟨hk, hj, hmd, hfb⟩ := hinv
      refine n_iload_n O dX6_fasts_9 rfl ?_
      refine r_bipush O (by decide +kernel) dX6_fasts_10 ?_
      refine r_icmp_ge (tgt := 49) O ⟨by omega, by omega⟩ ⟨by omega, by omega⟩ dX6_fasts_12 (by decide) (fun hc12 => ?_) (fun hc12 => ?_)
      · skip
        refine n_aload_n O dX6_fasts_49 rfl ?_
        refine r_callV0v O (C_X6_lets hI hM _ _ _ _ _ _ _ _ _ _ _ _ _ _ _ _ ) q_X6_130 (by rw [hM]; decide) (fs := _) rfl rfl rfl (by decide) (by decide) (Nat.le_of_ble_eq_true rfl) dX6_fasts_50 (fun zu50 hz50 => ?_)
        obtain ⟨s5, hs5, rfl⟩ := hz50
        have hr5 := mR_31 hr (by omega) (fun y h0 h1 => (hs5 y h0 h1).trans (hh2 y h0 h1))
        refine n_iload_n O dX6_fasts_53 rfl ?_
        exact hE _ _ _ _ dX6_fasts_54 rfl ⟨fastsJ_e hj (by omega), _, _, _, _, hr5, rfl⟩
      · skip
        refine n_iload_n O dX6_fasts_15 rfl ?_
        refine r_bipush O (by decide +kernel) dX6_fasts_16 ?_
        refine r_icmp_ne (tgt := 49) O ⟨by omega, by omega⟩ ⟨by omega, by omega⟩ dX6_fasts_18 (by decide) (fun hc18 => ?_) (fun hc18 => ?_)
        · skip
          refine n_aload_n O dX6_fasts_49 rfl ?_
          refine r_callV0v O (C_X6_lets hI hM _ _ _ _ _ _ _ _ _ _ _ _ _ _ _ _ ) q_X6_130 (by rw [hM]; decide) (fs := _) rfl rfl rfl (by decide) (by decide) (Nat.le_of_ble_eq_true rfl) dX6_fasts_50 (fun zu50 hz50 => ?_)
          obtain ⟨s5, hs5, rfl⟩ := hz50
          have hr5 := mR_31 hr (by omega) (fun y h0 h1 => (hs5 y h0 h1).trans (hh2 y h0 h1))
          refine n_iload_n O dX6_fasts_53 rfl ?_
          exact hE _ _ _ _ dX6_fasts_54 rfl ⟨fastsJ_e hj (by omega), _, _, _, _, hr5, rfl⟩
        · skip
          refine n_aload_n O dX6_fasts_21 rfl ?_
          refine n_aload_n O dX6_fasts_22 rfl ?_
          refine r_callV0i O (C_X6_all hI hM _ _ _ _ _ _ _ _ _ _ _ _ _ _ _ _ (qn v).toNat (by omega) (by omega)) q_X6_104 (by rw [hM]; decide) (fs := _) rfl rfl rfl (by decide) (by decide) (Nat.le_of_ble_eq_true rfl) dX6_fasts_23 (fun zz23 zu23 hz23 => ?_)
          obtain ⟨rfl, rfl⟩ := hz23
          refine r_callV1i O (C_X6_isPassed hI hM _ _ _ _ _ _ _ _ _ _ _ _ _ _ _ _ (fastK v k) (okV_fastK hv k) hmd (2 ^ (qn v).toNat - 1) (by omega)) q_X6_133 (by rw [hM]; decide) (fs := _) rfl rfl rfl (by decide) (by decide) (Nat.le_of_ble_eq_true rfl) dX6_fasts_26 (fun zz26 zu26 hz26 => ?_)
          obtain ⟨hzp26, y26, s26, t26, w26, huq26, hwh26, hmr26, rfl⟩ := hz26
          have h0126 := letsV_01 (fastK v k) (2 ^ (qn v).toNat - 1)
          have hla26 := lets_all (okV_fastK hv k)
          rw [fastK_n] at hla26
          rw [hla26] at hzp26 h0126
          refine r_if_eq (tgt := 36) O ⟨by omega, by omega⟩ dX6_fasts_29 (by decide) (fun hc29 => ?_) (fun hc29 => ?_)
          · skip
            refine r_bipush O (by decide +kernel) dX6_fasts_36 ?_
            refine n_istore_n O dX6_fasts_38 (by decide) rfl ?_
            refine n_aload_n O dX6_fasts_39 rfl ?_
            refine r_callV0v O (C_X6_starves hI hM _ _ _ _ _ _ _ _ _ _ _ _ _ _ _ _ (fastK v k) (okV_fastK hv k) hmr26) q_X6_118 (by rw [hM]; decide) (fs := _) rfl rfl rfl (by decide) (by decide) (Nat.le_of_ble_eq_true rfl) dX6_fasts_40 (fun zu40 hz40 => ?_)
            obtain ⟨s3, hq3, rfl⟩ := hz40
            refine n_iinc O dX6_fasts_43 (by decide) rfl rfl ?_
            refine r_goto (tgt := 9) O dX6_fasts_46 (by decide) ?_
            have hf4 : fd = -4 := by omega
            subst hf4
            exact G_chk (ih9 _ (by omega) (k + 1) _ _ _ _ (by first | exact ⟨by omega, fastsJ_y hj (by omega) (by omega), hq3, by omega⟩ | exact ⟨by omega, fastsJ_n hj (by omega), hq3, by omega⟩) rfl) (zsc rfl (zsc rfl (zsc rfl zsn)))
          · skip
            refine n_iload_n O dX6_fasts_32 rfl ?_
            refine r_goto (tgt := 38) O dX6_fasts_33 (by decide) ?_
            refine n_istore_n O dX6_fasts_38 (by decide) rfl ?_
            refine n_aload_n O dX6_fasts_39 rfl ?_
            refine r_callV0v O (C_X6_starves hI hM _ _ _ _ _ _ _ _ _ _ _ _ _ _ _ _ (fastK v k) (okV_fastK hv k) hmr26) q_X6_118 (by rw [hM]; decide) (fs := _) rfl rfl rfl (by decide) (by decide) (Nat.le_of_ble_eq_true rfl) dX6_fasts_40 (fun zu40 hz40 => ?_)
            obtain ⟨s3, hq3, rfl⟩ := hz40
            refine n_iinc O dX6_fasts_43 (by decide) rfl rfl ?_
            refine r_goto (tgt := 9) O dX6_fasts_46 (by decide) ?_
            have hf4 : fd = -4 := by omega
            subst hf4
            exact G_chk (ih9 _ (by omega) (k + 1) _ _ _ _ (by first | exact ⟨by omega, fastsJ_y hj (by omega) (by omega), hq3, by omega⟩ | exact ⟨by omega, fastsJ_n hj (by omega), hq3, by omega⟩) rfl) (zsc rfl (zsc rfl (zsc rfl zsn)))
  exact G_chk (L9 _ 0 (-4) ss tt la ⟨by omega, Or.inl ⟨rfl, fun m hm => by omega⟩, hr, by omega⟩ rfl) (zsc rfl (zsc rfl (zsc rfl zsn)))
set_option maxHeartbeats 4000000 in
theorem C_X6_cabal {K : zK} (hI : zInj K) (hM : kN K = 11) (tx : Int → Int) (ty : Int) (td dr bg ss pa : Int → Int) (kn : Int) (im : Int → Int) (kp : Int) (ns : Int → Int) (nd ap la : Int) (hh tt : Int → Int) (v : SV) (hv : okV v) (hr : mR td ss v) (w : Int) (bw : zB w)  : zCi K yX6_cabal cX6_cabal 4 (some .int) 4 [.ref (kad K 0), .int (iI w)] (layM K tx ty td dr bg ss pa kn im kp ns nd ap la hh tt) (fun z u => ((w < 0 ∨ 1 < w) ∧ z = -1 ∧ u = (layM K tx ty td dr bg ss pa kn im kp ns nd ap la hh tt)) ∨ ((0 ≤ w ∧ w ≤ 1) ∧ z = cabI v w ∧ ∃ (s2 h2 t2 : Int → Int) (w2 : Int), mR td s2 v ∧ u = (layM K tx ty td dr bg s2 pa kn im kp ns nd ap w2 h2 t2))) := by
  obtain ⟨hn7, ham, hhe, hsa, hro, hfa, hm⟩ := id hv
  obtain ⟨r1, r2, r3, r4, r5, r6, rm⟩ := id hr
  have hpw := pow_b (qn v).toNat (by omega)
  obtain ⟨bw1, bw2⟩ := id bw
  refine zCi_in hI (by decide +kernel) (Nat.le_of_ble_eq_true rfl) (fun X O hE => ?_)
  refine n_iload_n O dX6_cabal_0 rfl ?_
  refine r_iconst O dX6_cabal_1 ?_
  refine r_iconst O dX6_cabal_2 ?_
  refine r_callS3i O (C_X6_in hI _ _ _ _ ⟨by omega, by omega⟩ ⟨by omega, by omega⟩ ⟨by omega, by omega⟩) q_X6_50 (by decide) (by decide) (Nat.le_of_ble_eq_true rfl) dX6_cabal_3 (fun zz3 zu3 hz3 => ?_)
  obtain ⟨hzi3, rfl⟩ := hz3
  have hic3 := inI_c hzi3
  refine r_if_ne (tgt := 11) O ⟨by omega, by omega⟩ dX6_cabal_6 (by decide) (fun hc6 => ?_) (fun hc6 => ?_)
  · skip
    refine r_bipush O (by decide +kernel) dX6_cabal_11 ?_
    refine n_istore_n O dX6_cabal_13 (by decide) rfl ?_
    refine r_iconst O dX6_cabal_14 ?_
    refine n_istore_n O dX6_cabal_15 (by decide) rfl ?_
    have L16 : ∀ (zk : Nat) (k : Nat) (fd : Int) (s1 t1 : Int → Int) (lb : Int), (k ≤ 2 ^ (qn v).toNat ∧ fd = fewN (letsV v) k ∧ mR td s1 v) → 128 - k = zk → G K X 4 16 [(0, .ref (kad K 0)), (1, .int (iI w)), (2, .int (iI fd)), (3, .int (iI (k : Int)))] [] (layM K tx ty td dr bg s1 pa kn im kp ns nd ap lb hh t1) := by
      intro zk
      induction zk using Nat.strongRecOn with
      | ind zk ih16 =>
        intro k fd s1 t1 lb hinv hk
        obtain ⟨hk, rfl, hmd⟩ := hinv
        have hfb := fewN_b (letsV v) k
        have hp1 := popN_b k
        have hp2 := popN_b (fewN (letsV v) k).toNat
        refine n_iload_n O dX6_cabal_16 rfl ?_
        refine n_aload_n O dX6_cabal_17 rfl ?_
        refine r_callV0i O (C_X6_all hI hM _ _ _ _ _ _ _ _ _ _ _ _ _ _ _ _ (qn v).toNat (by omega) (by omega)) q_X6_104 (by rw [hM]; decide) (fs := _) rfl rfl rfl (by decide) (by decide) (Nat.le_of_ble_eq_true rfl) dX6_cabal_18 (fun zz18 zu18 hz18 => ?_)
        obtain ⟨rfl, rfl⟩ := hz18
        refine r_icmp_gt (tgt := 57) O ⟨by omega, by omega⟩ ⟨by omega, by omega⟩ dX6_cabal_21 (by decide) (fun hc21 => ?_) (fun hc21 => ?_)
        · skip
          have ek : k = 2 ^ (qn v).toNat := by omega
          refine n_iload_n O dX6_cabal_57 rfl ?_
          refine r_iconst O dX6_cabal_58 ?_
          refine r_icmp_eq (tgt := 68) O ⟨by omega, by omega⟩ ⟨by omega, by omega⟩ dX6_cabal_59 (by decide) (fun hc59 => ?_) (fun hc59 => ?_)
          · skip
            refine n_iload_n O dX6_cabal_68 rfl ?_
            refine r_goto (tgt := 76) O dX6_cabal_69 (by decide) ?_
            exact hE _ _ _ _ dX6_cabal_76 rfl (Or.inr ⟨by omega, by unfold cabI; rw [← ek]; first | (rw [if_pos (by omega)]; omega) | (rw [if_neg (by omega), if_neg (by omega)]; done) | (rw [if_neg (by omega), if_pos (by omega)]; done) | (by_cases e4 : fewN (letsV v) k = -4; (rw [if_pos e4]; exact e4); (rw [if_neg e4, if_neg (by omega)])), _, _, _, _, hmd, rfl⟩)
          · skip
            refine n_iload_n O dX6_cabal_62 rfl ?_
            refine r_bipush O (by decide +kernel) dX6_cabal_63 ?_
            refine r_icmp_ne (tgt := 72) O ⟨by omega, by omega⟩ ⟨by omega, by omega⟩ dX6_cabal_65 (by decide) (fun hc65 => ?_) (fun hc65 => ?_)
            · skip
              refine n_iload_n O dX6_cabal_72 rfl ?_
              refine r_callS1i O ((show zCi K yX6_ones cX6_ones 3 (some .int) 0 [.int (iI (fewN (letsV v) k))] (layM K tx ty td dr bg s1 pa kn im kp ns nd ap lb hh t1) _ from by have h := C_X6_ones hI (layM K tx ty td dr bg s1 pa kn im kp ns nd ap lb hh t1) (fewN (letsV v) k).toNat (by omega); rw [Int.toNat_of_nonneg (by omega)] at h; exact h)) q_X6_136 (by decide) (by decide) (Nat.le_of_ble_eq_true rfl) dX6_cabal_73 (fun zz73 zu73 hz73 => ?_)
              obtain ⟨rfl, rfl⟩ := hz73
              exact hE _ _ _ _ dX6_cabal_76 rfl (Or.inr ⟨by omega, by unfold cabI; rw [← ek]; first | (rw [if_pos (by omega)]; omega) | (rw [if_neg (by omega), if_neg (by omega)]; done) | (rw [if_neg (by omega), if_pos (by omega)]; done) | (by_cases e4 : fewN (letsV v) k = -4; (rw [if_pos e4]; exact e4); (rw [if_neg e4, if_neg (by omega)])), _, _, _, _, hmd, rfl⟩)
            · skip
              refine n_iload_n O dX6_cabal_68 rfl ?_
              refine r_goto (tgt := 76) O dX6_cabal_69 (by decide) ?_
              exact hE _ _ _ _ dX6_cabal_76 rfl (Or.inr ⟨by omega, by unfold cabI; rw [← ek]; first | (rw [if_pos (by omega)]; omega) | (rw [if_neg (by omega), if_neg (by omega)]; done) | (rw [if_neg (by omega), if_pos (by omega)]; done) | (by_cases e4 : fewN (letsV v) k = -4; (rw [if_pos e4]; exact e4); (rw [if_neg e4, if_neg (by omega)])), _, _, _, _, hmd, rfl⟩)
        · skip
          refine n_iload_n O dX6_cabal_24 rfl ?_
          refine r_bipush O (by decide +kernel) dX6_cabal_25 ?_
          refine r_icmp_eq (tgt := 41) O ⟨by omega, by omega⟩ ⟨by omega, by omega⟩ dX6_cabal_27 (by decide) (fun hc27 => ?_) (fun hc27 => ?_)
          · skip
            refine n_aload_n O dX6_cabal_41 rfl ?_
            refine n_iload_n O dX6_cabal_42 rfl ?_
            refine r_callV1i O (C_X6_isPassed hI hM _ _ _ _ _ _ _ _ _ _ _ _ _ _ _ _ v hv hmd k (by omega)) q_X6_133 (by rw [hM]; decide) (fs := _) rfl rfl rfl (by decide) (by decide) (Nat.le_of_ble_eq_true rfl) dX6_cabal_43 (fun zz43 zu43 hz43 => ?_)
            obtain ⟨hzp43, y43, s43, t43, w43, huq43, hwh43, hmr43, rfl⟩ := hz43
            have h0143 := letsV_01 v k
            refine r_if_eq (tgt := 51) O ⟨by omega, by omega⟩ dX6_cabal_46 (by decide) (fun hc46 => ?_) (fun hc46 => ?_)
            · skip
              refine n_iinc O dX6_cabal_51 (by decide) rfl rfl ?_
              refine r_goto (tgt := 16) O dX6_cabal_54 (by decide) ?_
              exact G_chk (ih16 _ (by omega) (k + 1) _ _ _ _ ⟨by omega, fewN_st _ _ (by first | exact Or.inr ⟨rfl, by omega⟩ | exact Or.inl ⟨rfl, by omega, by omega⟩), by first | exact hmr43 | exact hmd⟩ rfl) (zsc rfl (zsc rfl (zsc rfl (zsc rfl zsn))))
            · skip
              refine n_iload_n O dX6_cabal_49 rfl ?_
              refine n_istore_n O dX6_cabal_50 (by decide) rfl ?_
              refine n_iinc O dX6_cabal_51 (by decide) rfl rfl ?_
              refine r_goto (tgt := 16) O dX6_cabal_54 (by decide) ?_
              exact G_chk (ih16 _ (by omega) (k + 1) _ _ _ _ ⟨by omega, fewN_st _ _ (by first | exact Or.inr ⟨rfl, by omega⟩ | exact Or.inl ⟨rfl, by omega, by omega⟩), by first | exact hmr43 | exact hmd⟩ rfl) (zsc rfl (zsc rfl (zsc rfl (zsc rfl zsn))))
          · skip
            refine n_iload_n O dX6_cabal_30 rfl ?_
            refine r_callS1i O (C_X6_ones hI _ k (by omega)) q_X6_136 (by decide) (by decide) (Nat.le_of_ble_eq_true rfl) dX6_cabal_31 (fun zz31 zu31 hz31 => ?_)
            obtain ⟨rfl, rfl⟩ := hz31
            refine n_iload_n O dX6_cabal_34 rfl ?_
            refine r_callS1i O ((show zCi K yX6_ones cX6_ones 3 (some .int) 0 [.int (iI (fewN (letsV v) k))] (layM K tx ty td dr bg s1 pa kn im kp ns nd ap lb hh t1) _ from by have h := C_X6_ones hI (layM K tx ty td dr bg s1 pa kn im kp ns nd ap lb hh t1) (fewN (letsV v) k).toNat (by omega); rw [Int.toNat_of_nonneg (by omega)] at h; exact h)) q_X6_136 (by decide) (by decide) (Nat.le_of_ble_eq_true rfl) dX6_cabal_35 (fun zz35 zu35 hz35 => ?_)
            obtain ⟨rfl, rfl⟩ := hz35
            refine r_icmp_ge (tgt := 51) O ⟨by omega, by omega⟩ ⟨by omega, by omega⟩ dX6_cabal_38 (by decide) (fun hc38 => ?_) (fun hc38 => ?_)
            · skip
              refine n_iinc O dX6_cabal_51 (by decide) rfl rfl ?_
              refine r_goto (tgt := 16) O dX6_cabal_54 (by decide) ?_
              exact G_chk (ih16 _ (by omega) (k + 1) _ _ _ _ ⟨by omega, fewN_st _ _ (by first | exact Or.inr ⟨rfl, by omega⟩ | exact Or.inl ⟨rfl, by omega, by omega⟩), by first | exact hmr43 | exact hmd⟩ rfl) (zsc rfl (zsc rfl (zsc rfl (zsc rfl zsn))))
            · skip
              refine n_aload_n O dX6_cabal_41 rfl ?_
              refine n_iload_n O dX6_cabal_42 rfl ?_
              refine r_callV1i O (C_X6_isPassed hI hM _ _ _ _ _ _ _ _ _ _ _ _ _ _ _ _ v hv hmd k (by omega)) q_X6_133 (by rw [hM]; decide) (fs := _) rfl rfl rfl (by decide) (by decide) (Nat.le_of_ble_eq_true rfl) dX6_cabal_43 (fun zz43 zu43 hz43 => ?_)
              obtain ⟨hzp43, y43, s43, t43, w43, huq43, hwh43, hmr43, rfl⟩ := hz43
              have h0143 := letsV_01 v k
              refine r_if_eq (tgt := 51) O ⟨by omega, by omega⟩ dX6_cabal_46 (by decide) (fun hc46 => ?_) (fun hc46 => ?_)
              · skip
                refine n_iinc O dX6_cabal_51 (by decide) rfl rfl ?_
                refine r_goto (tgt := 16) O dX6_cabal_54 (by decide) ?_
                exact G_chk (ih16 _ (by omega) (k + 1) _ _ _ _ ⟨by omega, fewN_st _ _ (by first | exact Or.inr ⟨rfl, by omega⟩ | exact Or.inl ⟨rfl, by omega, by omega⟩), by first | exact hmr43 | exact hmd⟩ rfl) (zsc rfl (zsc rfl (zsc rfl (zsc rfl zsn))))
              · skip
                refine n_iload_n O dX6_cabal_49 rfl ?_
                refine n_istore_n O dX6_cabal_50 (by decide) rfl ?_
                refine n_iinc O dX6_cabal_51 (by decide) rfl rfl ?_
                refine r_goto (tgt := 16) O dX6_cabal_54 (by decide) ?_
                exact G_chk (ih16 _ (by omega) (k + 1) _ _ _ _ ⟨by omega, fewN_st _ _ (by first | exact Or.inr ⟨rfl, by omega⟩ | exact Or.inl ⟨rfl, by omega, by omega⟩), by first | exact hmr43 | exact hmd⟩ rfl) (zsc rfl (zsc rfl (zsc rfl (zsc rfl zsn))))
    exact G_chk (L16 _ 0 (-4) ss tt la ⟨by omega, rfl, hr⟩ rfl) (zsc rfl (zsc rfl (zsc rfl (zsc rfl zsn))))
  · skip
    refine r_iconst O dX6_cabal_9 ?_
    exact hE _ _ _ _ dX6_cabal_10 rfl (Or.inl ⟨by omega, rfl, rfl⟩)
