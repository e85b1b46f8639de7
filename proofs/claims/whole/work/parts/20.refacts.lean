set_option maxHeartbeats 4000000 in
theorem C_X6_member {K : zK} (hI : zInj K) (hM : kN K = 11) (tx : Int → Int) (ty : Int) (td dr bg ss pa : Int → Int) (kn : Int) (im : Int → Int) (kp : Int) (ns : Int → Int) (nd ap la : Int) (hh tt : Int → Int) (v : SV) (hv : okV v) (hr : mR td ss v) (i : Int) (bi : zB i) (w : Int) (bw : zB w)  : zCi K yX6_member cX6_member 3 (some .int) 2 [.ref (kad K 0), .int (iI i), .int (iI w)] (layM K tx ty td dr bg ss pa kn im kp ns nd ap la hh tt) (fun z u => z = memI v i w ∧ u = (layM K tx ty td dr bg ss pa kn im kp ns nd ap la hh tt)) := by
  obtain ⟨hn7, ham, hhe, hsa, hro, hfa, hm⟩ := id hv
  obtain ⟨r1, r2, r3, r4, r5, r6, rm⟩ := id hr
  obtain ⟨bi1, bi2⟩ := id bi
  obtain ⟨bw1, bw2⟩ := id bw
  refine zCi_in hI (by decide +kernel) (Nat.le_of_ble_eq_true rfl) (fun X O hE => ?_)
  refine n_aload_n O dX6_member_0 rfl ?_
  refine n_iload_n O dX6_member_1 rfl ?_
  refine r_callV1i O (C_X6_isMember hI hM _ _ _ _ _ _ _ _ _ _ _ _ _ _ _ _ (by omega) _ ⟨by omega, by omega⟩) q_X6_89 (by rw [hM]; decide) (fs := _) rfl rfl rfl (by decide) (by decide) (Nat.le_of_ble_eq_true rfl) dX6_member_2 (fun zz2 zu2 hz2 => ?_)
  obtain ⟨hzi2, rfl⟩ := hz2
  have hic2 := inI_c hzi2
  refine r_if_ne (tgt := 10) O ⟨by omega, by omega⟩ dX6_member_5 (by decide) (fun hc5 => ?_) (fun hc5 => ?_)
  · skip
    obtain ⟨x1, x2, x3, x4, x5⟩ := rm i (by omega) (by omega)
    refine n_iload_n O dX6_member_10 rfl ?_
    have hsw : w < 0 ∨ 5 < w ∨ w = 0 ∨ w = 1 ∨ w = 2 ∨ w = 3 ∨ w = 4 ∨ w = 5 := by omega
    rcases hsw with hsw | hsw | hsw | hsw | hsw | hsw | hsw | hsw
    · skip
      refine r_tabOut (tgt := 100) O ⟨by omega, by omega⟩ dX6_member_11 (Or.inl hsw) (by decide) ?_
      refine r_iconst O dX6_member_100 ?_
      exact hE _ _ _ _ dX6_member_101 rfl ⟨by unfold memI; rw [if_neg (by omega)]; first | (rw [if_pos (by omega)]; omega) | (rw [if_neg (by omega), if_pos (by omega)]; omega) | (rw [if_neg (by omega), if_neg (by omega), if_pos (by omega)]; omega) | (rw [if_neg (by omega), if_neg (by omega), if_neg (by omega), if_pos (by omega)]; omega) | (rw [if_neg (by omega), if_neg (by omega), if_neg (by omega), if_neg (by omega), if_pos (by omega)]; omega) | (rw [if_neg (by omega), if_neg (by omega), if_neg (by omega), if_neg (by omega), if_neg (by omega), if_pos (by omega)]; done) | (rw [if_neg (by omega), if_neg (by omega), if_neg (by omega), if_neg (by omega), if_neg (by omega), if_neg (by omega)]; done), rfl⟩
    · skip
      refine r_tabOut (tgt := 100) O ⟨by omega, by omega⟩ dX6_member_11 (Or.inr hsw) (by decide) ?_
      refine r_iconst O dX6_member_100 ?_
      exact hE _ _ _ _ dX6_member_101 rfl ⟨by unfold memI; rw [if_neg (by omega)]; first | (rw [if_pos (by omega)]; omega) | (rw [if_neg (by omega), if_pos (by omega)]; omega) | (rw [if_neg (by omega), if_neg (by omega), if_pos (by omega)]; omega) | (rw [if_neg (by omega), if_neg (by omega), if_neg (by omega), if_pos (by omega)]; omega) | (rw [if_neg (by omega), if_neg (by omega), if_neg (by omega), if_neg (by omega), if_pos (by omega)]; omega) | (rw [if_neg (by omega), if_neg (by omega), if_neg (by omega), if_neg (by omega), if_neg (by omega), if_pos (by omega)]; done) | (rw [if_neg (by omega), if_neg (by omega), if_neg (by omega), if_neg (by omega), if_neg (by omega), if_neg (by omega)]; done), rfl⟩
    · skip
      refine r_tabIn (off := 37) (tgt := 48) O ⟨by omega, by omega⟩ dX6_member_11 (by omega) (by omega) (by rw [hsw]; rfl) (by decide) ?_
      refine n_aload_n O dX6_member_48 rfl ?_
      refine m_get_ss O hM fl_X6_22 dX6_member_49 ?_
      refine n_iload_n O dX6_member_52 rfl ?_
      refine m_ld_ss O hM (by omega) (by omega) dX6_member_53 ?_
      exact hE _ _ _ _ dX6_member_54 rfl ⟨by unfold memI; rw [if_neg (by omega)]; first | (rw [if_pos (by omega)]; omega) | (rw [if_neg (by omega), if_pos (by omega)]; omega) | (rw [if_neg (by omega), if_neg (by omega), if_pos (by omega)]; omega) | (rw [if_neg (by omega), if_neg (by omega), if_neg (by omega), if_pos (by omega)]; omega) | (rw [if_neg (by omega), if_neg (by omega), if_neg (by omega), if_neg (by omega), if_pos (by omega)]; omega) | (rw [if_neg (by omega), if_neg (by omega), if_neg (by omega), if_neg (by omega), if_neg (by omega), if_pos (by omega)]; done) | (rw [if_neg (by omega), if_neg (by omega), if_neg (by omega), if_neg (by omega), if_neg (by omega), if_neg (by omega)]; done), rfl⟩
    · skip
      refine r_tabIn (off := 44) (tgt := 55) O ⟨by omega, by omega⟩ dX6_member_11 (by omega) (by omega) (by rw [hsw]; rfl) (by decide) ?_
      refine n_aload_n O dX6_member_55 rfl ?_
      refine m_get_ss O hM fl_X6_22 dX6_member_56 ?_
      refine r_bipush O (by decide +kernel) dX6_member_59 ?_
      refine n_iload_n O dX6_member_61 rfl ?_
      refine r_iadd O dX6_member_62 ?_
      refine m_ld_ss O hM (by omega) (by omega) dX6_member_63 ?_
      exact hE _ _ _ _ dX6_member_64 rfl ⟨by unfold memI; rw [if_neg (by omega)]; first | (rw [if_pos (by omega)]; omega) | (rw [if_neg (by omega), if_pos (by omega)]; omega) | (rw [if_neg (by omega), if_neg (by omega), if_pos (by omega)]; omega) | (rw [if_neg (by omega), if_neg (by omega), if_neg (by omega), if_pos (by omega)]; omega) | (rw [if_neg (by omega), if_neg (by omega), if_neg (by omega), if_neg (by omega), if_pos (by omega)]; omega) | (rw [if_neg (by omega), if_neg (by omega), if_neg (by omega), if_neg (by omega), if_neg (by omega), if_pos (by omega)]; done) | (rw [if_neg (by omega), if_neg (by omega), if_neg (by omega), if_neg (by omega), if_neg (by omega), if_neg (by omega)]; done), rfl⟩
    · skip
      refine r_tabIn (off := 54) (tgt := 65) O ⟨by omega, by omega⟩ dX6_member_11 (by omega) (by omega) (by rw [hsw]; rfl) (by decide) ?_
      refine n_aload_n O dX6_member_65 rfl ?_
      refine m_get_ss O hM fl_X6_22 dX6_member_66 ?_
      refine r_bipush O (by decide +kernel) dX6_member_69 ?_
      refine n_iload_n O dX6_member_71 rfl ?_
      refine r_iadd O dX6_member_72 ?_
      refine m_ld_ss O hM (by omega) (by omega) dX6_member_73 ?_
      exact hE _ _ _ _ dX6_member_74 rfl ⟨by unfold memI; rw [if_neg (by omega)]; first | (rw [if_pos (by omega)]; omega) | (rw [if_neg (by omega), if_pos (by omega)]; omega) | (rw [if_neg (by omega), if_neg (by omega), if_pos (by omega)]; omega) | (rw [if_neg (by omega), if_neg (by omega), if_neg (by omega), if_pos (by omega)]; omega) | (rw [if_neg (by omega), if_neg (by omega), if_neg (by omega), if_neg (by omega), if_pos (by omega)]; omega) | (rw [if_neg (by omega), if_neg (by omega), if_neg (by omega), if_neg (by omega), if_neg (by omega), if_pos (by omega)]; done) | (rw [if_neg (by omega), if_neg (by omega), if_neg (by omega), if_neg (by omega), if_neg (by omega), if_neg (by omega)]; done), rfl⟩
    · skip
      refine r_tabIn (off := 64) (tgt := 75) O ⟨by omega, by omega⟩ dX6_member_11 (by omega) (by omega) (by rw [hsw]; rfl) (by decide) ?_
      refine n_aload_n O dX6_member_75 rfl ?_
      refine m_get_td O hM fl_X6_13 dX6_member_76 ?_
      refine r_iconst O dX6_member_79 ?_
      refine n_iload_n O dX6_member_80 rfl ?_
      refine r_iadd O dX6_member_81 ?_
      refine m_ld_td O hM (by omega) (by omega) dX6_member_82 ?_
      exact hE _ _ _ _ dX6_member_83 rfl ⟨by unfold memI; rw [if_neg (by omega)]; first | (rw [if_pos (by omega)]; omega) | (rw [if_neg (by omega), if_pos (by omega)]; omega) | (rw [if_neg (by omega), if_neg (by omega), if_pos (by omega)]; omega) | (rw [if_neg (by omega), if_neg (by omega), if_neg (by omega), if_pos (by omega)]; omega) | (rw [if_neg (by omega), if_neg (by omega), if_neg (by omega), if_neg (by omega), if_pos (by omega)]; omega) | (rw [if_neg (by omega), if_neg (by omega), if_neg (by omega), if_neg (by omega), if_neg (by omega), if_pos (by omega)]; done) | (rw [if_neg (by omega), if_neg (by omega), if_neg (by omega), if_neg (by omega), if_neg (by omega), if_neg (by omega)]; done), rfl⟩
    · skip
      refine r_tabIn (off := 73) (tgt := 84) O ⟨by omega, by omega⟩ dX6_member_11 (by omega) (by omega) (by rw [hsw]; rfl) (by decide) ?_
      refine n_aload_n O dX6_member_84 rfl ?_
      refine m_get_ss O hM fl_X6_22 dX6_member_85 ?_
      refine r_bipush O (by decide +kernel) dX6_member_88 ?_
      refine n_iload_n O dX6_member_90 rfl ?_
      refine r_iadd O dX6_member_91 ?_
      refine m_ld_ss O hM (by omega) (by omega) dX6_member_92 ?_
      exact hE _ _ _ _ dX6_member_93 rfl ⟨by unfold memI; rw [if_neg (by omega)]; first | (rw [if_pos (by omega)]; omega) | (rw [if_neg (by omega), if_pos (by omega)]; omega) | (rw [if_neg (by omega), if_neg (by omega), if_pos (by omega)]; omega) | (rw [if_neg (by omega), if_neg (by omega), if_neg (by omega), if_pos (by omega)]; omega) | (rw [if_neg (by omega), if_neg (by omega), if_neg (by omega), if_neg (by omega), if_pos (by omega)]; omega) | (rw [if_neg (by omega), if_neg (by omega), if_neg (by omega), if_neg (by omega), if_neg (by omega), if_pos (by omega)]; done) | (rw [if_neg (by omega), if_neg (by omega), if_neg (by omega), if_neg (by omega), if_neg (by omega), if_neg (by omega)]; done), rfl⟩
    · skip
      refine r_tabIn (off := 83) (tgt := 94) O ⟨by omega, by omega⟩ dX6_member_11 (by omega) (by omega) (by rw [hsw]; rfl) (by decide) ?_
      refine n_aload_n O dX6_member_94 rfl ?_
      refine n_iload_n O dX6_member_95 rfl ?_
      refine r_callV1i O (C_X6_wouldEat hI hM _ _ _ _ _ _ _ _ _ _ _ _ _ _ _ _ v hv hr _ (by omega) (by omega)) q_X6_92 (by rw [hM]; decide) (fs := _) rfl rfl rfl (by decide) (by decide) (Nat.le_of_ble_eq_true rfl) dX6_member_96 (fun zz96 zu96 hz96 => ?_)
      obtain ⟨rfl, rfl⟩ := hz96
      exact hE _ _ _ _ dX6_member_99 rfl ⟨by unfold memI; rw [if_neg (by omega)]; first | (rw [if_pos (by omega)]; omega) | (rw [if_neg (by omega), if_pos (by omega)]; omega) | (rw [if_neg (by omega), if_neg (by omega), if_pos (by omega)]; omega) | (rw [if_neg (by omega), if_neg (by omega), if_neg (by omega), if_pos (by omega)]; omega) | (rw [if_neg (by omega), if_neg (by omega), if_neg (by omega), if_neg (by omega), if_pos (by omega)]; omega) | (rw [if_neg (by omega), if_neg (by omega), if_neg (by omega), if_neg (by omega), if_neg (by omega), if_pos (by omega)]; done) | (rw [if_neg (by omega), if_neg (by omega), if_neg (by omega), if_neg (by omega), if_neg (by omega), if_neg (by omega)]; done), rfl⟩
  · skip
    refine r_iconst O dX6_member_8 ?_
    exact hE _ _ _ _ dX6_member_9 rfl ⟨by unfold memI; rw [if_pos (by omega)], rfl⟩
set_option maxHeartbeats 4000000 in
theorem C_X6_keeps {K : zK} (hI : zInj K) (hM : kN K = 11) (tx : Int → Int) (ty : Int) (td dr bg ss pa : Int → Int) (kn : Int) (im : Int → Int) (kp : Int) (ns : Int → Int) (nd ap la : Int) (hh tt : Int → Int) (hkn : 0 ≤ kn ∧ kn ≤ 8)  : zCv K yX6_keeps cX6_keeps 2 0 [.ref (kad K 0)] (layM K tx ty td dr bg ss pa kn im kp ns nd ap la hh tt) (fun u => ∃ (p2 : Int → Int) (k2 : Int), keepR pa ss kn p2 k2 ∧ u = (layM K tx ty td dr bg ss p2 k2 im kp ns nd ap la hh tt)) := by
  refine zCv_in hI (by decide +kernel) (Nat.le_of_ble_eq_true rfl) (fun X O hE => ?_)
  refine n_aload_n O dX6_keeps_0 rfl ?_
  refine m_get_kn O hM fl_X6_80 dX6_keeps_1 ?_
  refine r_bipush O (by decide +kernel) dX6_keeps_4 ?_
  refine r_icmp_ne (tgt := 49) O ⟨by omega, by omega⟩ ⟨by omega, by omega⟩ dX6_keeps_6 (by decide) (fun hc6 => ?_) (fun hc6 => ?_)
  · skip
    refine r_iconst O dX6_keeps_49 ?_
    refine n_istore_n O dX6_keeps_50 (by decide) rfl ?_
    have L51 : ∀ (zk : Nat) (i : Int) (p3 : Int → Int) (m : Int), (keepJ pa ss kn p3 m i) → (31 - i).toNat = zk → G K X 2 51 [(0, .ref (kad K 0)), (1, .int (iI i))] [] (layM K tx ty td dr bg ss p3 m im kp ns nd ap la hh tt) := by
      intro zk
      induction zk using Nat.strongRecOn with
      | ind zk ih51 =>
        intro i p3 m hinv hk
        have hj := hinv.1
        refine n_iload_n O dX6_keeps_51 rfl ?_
        refine r_bipush O (by decide +kernel) dX6_keeps_52 ?_
        refine r_icmp_ge (tgt := 83) O ⟨by omega, by omega⟩ ⟨by omega, by omega⟩ dX6_keeps_54 (by decide) (fun hc54 => ?_) (fun hc54 => ?_)
        · skip
          refine n_aload_n O dX6_keeps_83 rfl ?_
          refine r_dup O rfl dX6_keeps_84 ?_
          refine m_get_kn O hM fl_X6_80 dX6_keeps_85 ?_
          refine r_iconst O dX6_keeps_88 ?_
          refine r_iadd O dX6_keeps_89 ?_
          refine m_put_kn O hM fl_X6_80 dX6_keeps_90 ?_
          exact hE _ _ _ dX6_keeps_93 ⟨_, _, keepJ_e hinv (by omega), rfl⟩
        · skip
          refine n_aload_n O dX6_keeps_57 rfl ?_
          refine m_get_pa O hM fl_X6_25 dX6_keeps_58 ?_
          refine r_bipush O (by decide +kernel) dX6_keeps_61 ?_
          refine n_aload_n O dX6_keeps_63 rfl ?_
          refine m_get_kn O hM fl_X6_80 dX6_keeps_64 ?_
          refine r_imul O dX6_keeps_67 ?_
          refine n_iload_n O dX6_keeps_68 rfl ?_
          refine r_iadd O dX6_keeps_69 ?_
          refine n_aload_n O dX6_keeps_70 rfl ?_
          refine m_get_ss O hM fl_X6_22 dX6_keeps_71 ?_
          refine n_iload_n O dX6_keeps_74 rfl ?_
          refine m_ld_ss O hM (by omega) (by omega) dX6_keeps_75 ?_
          refine m_st_pa O hM (by omega) (by omega) dX6_keeps_76 ?_
          refine n_iinc O dX6_keeps_77 (by decide) rfl rfl ?_
          refine r_goto (tgt := 51) O dX6_keeps_80 (by decide) ?_
          exact G_chk (ih51 _ (by omega) (i + 1) _ m (keepJ_st hinv (by omega)) rfl) (zsc rfl (zsc rfl zsn))
    exact G_chk (L51 _ 0 _ _ (by first | exact ⟨by omega, Or.inl ⟨by omega, rfl, fun y _ _ => rfl⟩, fun y h0 h1 => by omega⟩ | exact ⟨by omega, Or.inr ⟨by omega, by omega, fun y h0 h1 => hq y h0 (by omega)⟩, fun y h0 h1 => by omega⟩) rfl) (zsc rfl (zsc rfl zsn))
  · skip
    refine r_iconst O dX6_keeps_9 ?_
    refine n_istore_n O dX6_keeps_10 (by decide) rfl ?_
    have L11 : ∀ (zk : Nat) (k : Int) (p1 : Int → Int), ((0 ≤ k ∧ k ≤ 217) ∧ (∀ y : Int, 0 ≤ y → y < k → p1 y = pa (y + 31)) ∧ ∀ y : Int, k ≤ y → p1 y = pa y) → (217 - k).toNat = zk → G K X 2 11 [(0, .ref (kad K 0)), (1, .int (iI k))] [] (layM K tx ty td dr bg ss p1 kn im kp ns nd ap la hh tt) := by
      intro zk
      induction zk using Nat.strongRecOn with
      | ind zk ih11 =>
        intro k p1 hinv hk
        obtain ⟨hk, hq, hq2⟩ := hinv
        refine n_iload_n O dX6_keeps_11 rfl ?_
        refine r_sipush O (by decide +kernel) dX6_keeps_12 ?_
        refine r_icmp_ge (tgt := 39) O ⟨by omega, by omega⟩ ⟨by omega, by omega⟩ dX6_keeps_15 (by decide) (fun hc15 => ?_) (fun hc15 => ?_)
        · skip
          refine n_aload_n O dX6_keeps_39 rfl ?_
          refine r_dup O rfl dX6_keeps_40 ?_
          refine m_get_kn O hM fl_X6_80 dX6_keeps_41 ?_
          refine r_iconst O dX6_keeps_44 ?_
          refine r_isub O dX6_keeps_45 ?_
          refine m_put_kn O hM fl_X6_80 dX6_keeps_46 ?_
          refine r_iconst O dX6_keeps_49 ?_
          refine n_istore_n O dX6_keeps_50 (by decide) rfl ?_
          have L51 : ∀ (zk : Nat) (i : Int) (p3 : Int → Int) (m : Int), (keepJ pa ss kn p3 m i) → (31 - i).toNat = zk → G K X 2 51 [(0, .ref (kad K 0)), (1, .int (iI i))] [] (layM K tx ty td dr bg ss p3 m im kp ns nd ap la hh tt) := by
            intro zk
            induction zk using Nat.strongRecOn with
            | ind zk ih51 =>
              intro i p3 m hinv hk
              have hj := hinv.1
              refine n_iload_n O dX6_keeps_51 rfl ?_
              refine r_bipush O (by decide +kernel) dX6_keeps_52 ?_
              refine r_icmp_ge (tgt := 83) O ⟨by omega, by omega⟩ ⟨by omega, by omega⟩ dX6_keeps_54 (by decide) (fun hc54 => ?_) (fun hc54 => ?_)
              · skip
                refine n_aload_n O dX6_keeps_83 rfl ?_
                refine r_dup O rfl dX6_keeps_84 ?_
                refine m_get_kn O hM fl_X6_80 dX6_keeps_85 ?_
                refine r_iconst O dX6_keeps_88 ?_
                refine r_iadd O dX6_keeps_89 ?_
                refine m_put_kn O hM fl_X6_80 dX6_keeps_90 ?_
                exact hE _ _ _ dX6_keeps_93 ⟨_, _, keepJ_e hinv (by omega), rfl⟩
              · skip
                refine n_aload_n O dX6_keeps_57 rfl ?_
                refine m_get_pa O hM fl_X6_25 dX6_keeps_58 ?_
                refine r_bipush O (by decide +kernel) dX6_keeps_61 ?_
                refine n_aload_n O dX6_keeps_63 rfl ?_
                refine m_get_kn O hM fl_X6_80 dX6_keeps_64 ?_
                refine r_imul O dX6_keeps_67 ?_
                refine n_iload_n O dX6_keeps_68 rfl ?_
                refine r_iadd O dX6_keeps_69 ?_
                refine n_aload_n O dX6_keeps_70 rfl ?_
                refine m_get_ss O hM fl_X6_22 dX6_keeps_71 ?_
                refine n_iload_n O dX6_keeps_74 rfl ?_
                refine m_ld_ss O hM (by omega) (by omega) dX6_keeps_75 ?_
                refine m_st_pa O hM (by omega) (by omega) dX6_keeps_76 ?_
                refine n_iinc O dX6_keeps_77 (by decide) rfl rfl ?_
                refine r_goto (tgt := 51) O dX6_keeps_80 (by decide) ?_
                exact G_chk (ih51 _ (by omega) (i + 1) _ m (keepJ_st hinv (by omega)) rfl) (zsc rfl (zsc rfl zsn))
          exact G_chk (L51 _ 0 _ _ (by first | exact ⟨by omega, Or.inl ⟨by omega, rfl, fun y _ _ => rfl⟩, fun y h0 h1 => by omega⟩ | exact ⟨by omega, Or.inr ⟨by omega, by omega, fun y h0 h1 => hq y h0 (by omega)⟩, fun y h0 h1 => by omega⟩) rfl) (zsc rfl (zsc rfl zsn))
        · skip
          refine n_aload_n O dX6_keeps_18 rfl ?_
          refine m_get_pa O hM fl_X6_25 dX6_keeps_19 ?_
          refine n_iload_n O dX6_keeps_22 rfl ?_
          refine n_aload_n O dX6_keeps_23 rfl ?_
          refine m_get_pa O hM fl_X6_25 dX6_keeps_24 ?_
          refine n_iload_n O dX6_keeps_27 rfl ?_
          refine r_bipush O (by decide +kernel) dX6_keeps_28 ?_
          refine r_iadd O dX6_keeps_30 ?_
          refine m_ld_pa O hM (by omega) (by omega) dX6_keeps_31 ?_
          refine m_st_pa O hM (by omega) (by omega) dX6_keeps_32 ?_
          refine n_iinc O dX6_keeps_33 (by decide) rfl rfl ?_
          refine r_goto (tgt := 11) O dX6_keeps_36 (by decide) ?_
          exact G_chk (ih11 _ (by omega) (k + 1) _ ⟨by omega, fun y h0 h1 => by by_cases e : y = k; (rw [e, uI_s]; exact hq2 _ (by omega)); (rw [uI_n _ _ e]; exact hq y h0 (by omega)), fun y h0 => by rw [uI_n _ _ (by omega)]; exact hq2 y (by omega)⟩ rfl) (zsc rfl (zsc rfl zsn))
    exact G_chk (L11 _ 0 pa ⟨by omega, fun y h0 h1 => by omega, fun y _ => rfl⟩ rfl) (zsc rfl (zsc rfl zsn))
set_option maxHeartbeats 4000000 in
theorem C_X6_eat {K : zK} (hI : zInj K) (hM : kN K = 11) (tx : Int → Int) (ty : Int) (td dr bg ss pa : Int → Int) (kn : Int) (im : Int → Int) (kp : Int) (ns : Int → Int) (nd ap la : Int) (hh tt : Int → Int) (v : SV) (hv : okV v) (hr : mR td ss v) (hkn : 0 ≤ kn ∧ kn ≤ 8) (n : Int) (bn : zB n)  : zCi K yX6_eat cX6_eat 4 (some .int) 2 [.ref (kad K 0), .int (iI n)] (layM K tx ty td dr bg ss pa kn im kp ns nd ap la hh tt) (fun z u => ((n < 1 ∨ 20 < n) ∧ z = -1 ∧ u = (layM K tx ty td dr bg ss pa kn im kp ns nd ap la hh tt)) ∨ ((1 ≤ n ∧ n ≤ 20) ∧ ∃ (p2 : Int → Int) (k2 : Int) (s2 : Int → Int) (lb : Int), keepR pa ss kn p2 k2 ∧ z = qam v - qam (roundsV v n.toNat).1 ∧ mR td s2 (roundsV v n.toNat).1 ∧ u = (layM K tx ty td dr bg s2 p2 k2 im kp ns nd ap lb hh tt))) := by
  obtain ⟨hn7, ham, hhe, hsa, hro, hfa, hm⟩ := id hv
  obtain ⟨r1, r2, r3, r4, r5, r6, rm⟩ := id hr
  obtain ⟨bn1, bn2⟩ := id bn
  have hpw := pow_b (qn v).toNat (by omega)
  refine zCi_in hI (by decide +kernel) (Nat.le_of_ble_eq_true rfl) (fun X O hE => ?_)
  refine n_iload_n O dX6_eat_0 rfl ?_
  refine r_iconst O dX6_eat_1 ?_
  refine r_bipush O (by decide +kernel) dX6_eat_2 ?_
  refine r_callS3i O (C_X6_in hI _ _ _ _ ⟨by omega, by omega⟩ ⟨by omega, by omega⟩ ⟨by omega, by omega⟩) q_X6_50 (by decide) (by decide) (Nat.le_of_ble_eq_true rfl) dX6_eat_4 (fun zz4 zu4 hz4 => ?_)
  obtain ⟨hzi4, rfl⟩ := hz4
  have hic4 := inI_c hzi4
  refine r_if_ne (tgt := 12) O ⟨by omega, by omega⟩ dX6_eat_7 (by decide) (fun hc7 => ?_) (fun hc7 => ?_)
  · skip
    refine n_aload_n O dX6_eat_12 rfl ?_
    refine r_callV0v O (C_X6_keeps hI hM _ _ _ _ _ _ _ _ _ _ _ _ _ _ _ _ hkn) q_X6_101 (by rw [hM]; decide) (fs := _) rfl rfl rfl (by decide) (by decide) (Nat.le_of_ble_eq_true rfl) dX6_eat_13 (fun zu13 hz13 => ?_)
    obtain ⟨p2, k2, hkr, rfl⟩ := hz13
    refine r_iconst O dX6_eat_16 ?_
    refine n_istore_n O dX6_eat_17 (by decide) rfl ?_
    refine r_iconst O dX6_eat_18 ?_
    refine n_istore_n O dX6_eat_19 (by decide) rfl ?_
    have L20 : ∀ (zk : Nat) (k : Nat) (s1 : Int → Int) (lb sm : Int), ((k : Int) ≤ n ∧ mR td s1 (roundsV v k).1 ∧ sm = qam v - qam (roundsV v k).1) → 20 - k = zk → G K X 4 20 [(0, .ref (kad K 0)), (1, .int (iI n)), (2, .int (iI sm)), (3, .int (iI (k : Int)))] [] (layM K tx ty td dr bg s1 p2 k2 im kp ns nd ap lb hh tt) := by
      intro zk
      induction zk using Nat.strongRecOn with
      | ind zk ih20 =>
        intro k s1 lb sm hinv hk
        obtain ⟨hk, hq, hsm⟩ := hinv
        refine n_iload_n O dX6_eat_20 rfl ?_
        refine n_iload_n O dX6_eat_21 rfl ?_
        refine r_icmp_ge (tgt := 42) O ⟨by omega, by omega⟩ ⟨by omega, by omega⟩ dX6_eat_22 (by decide) (fun hc22 => ?_) (fun hc22 => ?_)
        · skip
          refine n_iload_n O dX6_eat_42 rfl ?_
          exact hE _ _ _ _ dX6_eat_43 rfl (Or.inr ⟨by omega, by (have e : n.toNat = k := by omega); rw [e]; exact ⟨_, _, _, _, hkr, hsm, hq, rfl⟩⟩)
        · skip
          refine n_iload_n O dX6_eat_25 rfl ?_
          refine n_aload_n O dX6_eat_26 rfl ?_
          refine n_aload_n O dX6_eat_27 rfl ?_
          refine r_callV0i O (C_X6_all hI hM _ _ _ _ _ _ _ _ _ _ _ _ _ _ _ _ (qn v).toNat (by omega) (by omega)) q_X6_104 (by rw [hM]; decide) (fs := _) rfl rfl rfl (by decide) (by decide) (Nat.le_of_ble_eq_true rfl) dX6_eat_28 (fun zz28 zu28 hz28 => ?_)
          obtain ⟨rfl, rfl⟩ := hz28
          refine r_callV1i O (C_X6_eats hI hM _ _ _ _ _ _ _ _ _ _ _ _ _ _ _ _ (roundsV v k).1 (okV_roundsV hv k) hq (2 ^ (qn v).toNat - 1) (by omega)) q_X6_107 (by rw [hM]; decide) (fs := _) rfl rfl rfl (by decide) (by decide) (Nat.le_of_ble_eq_true rfl) dX6_eat_31 (fun zz31 zu31 hz31 => ?_)
          obtain ⟨hz3, s3, hq3, rfl⟩ := hz31
          have hra := roundQ_all (okV_roundsV hv k)
          rw [roundsV_n] at hra
          rw [hra] at hz3
          rw [hra] at hq3
          refine r_iadd O dX6_eat_34 ?_
          refine n_istore_n O dX6_eat_35 (by decide) rfl ?_
          refine n_iinc O dX6_eat_36 (by decide) rfl rfl ?_
          refine r_goto (tgt := 20) O dX6_eat_39 (by decide) ?_
          exact G_chk (ih20 _ (by omega) (k + 1) _ _ _ ⟨by omega, hq3, by show _ = qam v - qam (roundV (roundsV v k).1).1; omega⟩ rfl) (zsc rfl (zsc rfl (zsc rfl (zsc rfl zsn))))
    exact G_chk (L20 _ 0 ss la 0 ⟨by omega, hr, (Int.sub_self _).symm⟩ rfl) (zsc rfl (zsc rfl (zsc rfl (zsc rfl zsn))))
  · skip
    refine r_iconst O dX6_eat_10 ?_
    exact hE _ _ _ _ dX6_eat_11 rfl (Or.inl ⟨by omega, rfl, rfl⟩)
set_option maxHeartbeats 4000000 in
theorem C_X6_salt {K : zK} (hI : zInj K) (hM : kN K = 11) (tx : Int → Int) (ty : Int) (td dr bg ss pa : Int → Int) (kn : Int) (im : Int → Int) (kp : Int) (ns : Int → Int) (nd ap la : Int) (hh tt : Int → Int) (v : SV) (hv : okV v) (hr : mR td ss v) (hkn : 0 ≤ kn ∧ kn ≤ 8)  : zCi K yX6_salt cX6_salt 1 (some .int) 1 [.ref (kad K 0)] (layM K tx ty td dr bg ss pa kn im kp ns nd ap la hh tt) (fun z u => (qsa v = 9 ∧ z = -2 ∧ u = (layM K tx ty td dr bg ss pa kn im kp ns nd ap la hh tt)) ∨ (qsa v < 9 ∧ ∃ (p2 : Int → Int) (k2 : Int) (s2 : Int → Int), keepR pa ss kn p2 k2 ∧ z = qsa (saltV v) ∧ mR td s2 (saltV v) ∧ u = (layM K tx ty td dr bg s2 p2 k2 im kp ns nd ap la hh tt))) := by
  obtain ⟨hn7, ham, hhe, hsa, hro, hfa, hm⟩ := id hv
  obtain ⟨r1, r2, r3, r4, r5, r6, rm⟩ := id hr
  refine zCi_in hI (by decide +kernel) (Nat.le_of_ble_eq_true rfl) (fun X O hE => ?_)
  refine n_aload_n O dX6_salt_0 rfl ?_
  refine m_get_ss O hM fl_X6_22 dX6_salt_1 ?_
  refine r_bipush O (by decide +kernel) dX6_salt_4 ?_
  refine m_ld_ss O hM (by omega) (by omega) dX6_salt_6 ?_
  refine r_bipush O (by decide +kernel) dX6_salt_7 ?_
  refine r_icmp_ne (tgt := 15) O ⟨by omega, by omega⟩ ⟨by omega, by omega⟩ dX6_salt_9 (by decide) (fun hc9 => ?_) (fun hc9 => ?_)
  · skip
    refine n_aload_n O dX6_salt_15 rfl ?_
    refine r_callV0v O (C_X6_keeps hI hM _ _ _ _ _ _ _ _ _ _ _ _ _ _ _ _ hkn) q_X6_101 (by rw [hM]; decide) (fs := _) rfl rfl rfl (by decide) (by decide) (Nat.le_of_ble_eq_true rfl) dX6_salt_16 (fun zu16 hz16 => ?_)
    obtain ⟨p2, k2, hkr, rfl⟩ := hz16
    refine n_aload_n O dX6_salt_19 rfl ?_
    refine m_get_ss O hM fl_X6_22 dX6_salt_20 ?_
    refine r_bipush O (by decide +kernel) dX6_salt_23 ?_
    refine r_dup2 O rfl rfl dX6_salt_25 ?_
    refine m_ld_ss O hM (by omega) (by omega) dX6_salt_26 ?_
    refine r_iconst O dX6_salt_27 ?_
    refine r_iadd O dX6_salt_28 ?_
    refine m_st_ss O hM (by omega) (by omega) dX6_salt_29 ?_
    refine n_aload_n O dX6_salt_30 rfl ?_
    refine m_get_ss O hM fl_X6_22 dX6_salt_31 ?_
    refine r_bipush O (by decide +kernel) dX6_salt_34 ?_
    refine m_ld_ss O hM (by omega) (by omega) dX6_salt_36 ?_
    exact hE _ _ _ _ dX6_salt_37 rfl (Or.inr ⟨by omega, _, _, _, hkr, (mR_salt hr (by omega) (by omega)).2.2.2.1, mR_salt hr (by omega) (by omega), rfl⟩)
  · skip
    refine r_bipush O (by decide +kernel) dX6_salt_12 ?_
    exact hE _ _ _ _ dX6_salt_14 rfl (Or.inl ⟨by omega, rfl, rfl⟩)
set_option maxHeartbeats 4000000 in
theorem C_X6_cooks {K : zK} (hI : zInj K) (hM : kN K = 11) (tx : Int → Int) (ty : Int) (td dr bg ss pa : Int → Int) (kn : Int) (im : Int → Int) (kp : Int) (ns : Int → Int) (nd ap la : Int) (hh tt : Int → Int) (v : SV) (hv : okV v) (hr : mR td ss v) (a : Int) : zCv K yX6_cooks cX6_cooks 2 0 [.ref (kad K 0), .int (iI a)] (layM K tx ty td dr bg ss pa kn im kp ns nd ap la hh tt) (fun u => ∃ s2 : Int → Int, mR td s2 (cookV v a) ∧ u = (layM K tx ty td dr bg s2 pa kn im kp ns nd ap la hh tt)) := by
  obtain ⟨hn7, ham, hhe, hsa, hro, hfa, hm⟩ := id hv
  obtain ⟨r1, r2, r3, r4, r5, r6, rm⟩ := id hr
  refine zCv_in hI (by decide +kernel) (Nat.le_of_ble_eq_true rfl) (fun X O hE => ?_)
  refine n_aload_n O dX6_cooks_0 rfl ?_
  refine m_get_ss O hM fl_X6_22 dX6_cooks_1 ?_
  refine r_bipush O (by decide +kernel) dX6_cooks_4 ?_
  refine n_iload_n O dX6_cooks_6 rfl ?_
  refine m_st_ss O hM (by omega) (by omega) dX6_cooks_7 ?_
  refine n_aload_n O dX6_cooks_8 rfl ?_
  refine m_get_ss O hM fl_X6_22 dX6_cooks_9 ?_
  refine r_bipush O (by decide +kernel) dX6_cooks_12 ?_
  refine r_bipush O (by decide +kernel) dX6_cooks_14 ?_
  refine m_st_ss O hM (by omega) (by omega) dX6_cooks_16 ?_
  exact hE _ _ _ dX6_cooks_17 ⟨_, mR_cook hr (by omega) a, rfl⟩
set_option maxHeartbeats 4000000 in
theorem C_X6_cook {K : zK} (hI : zInj K) (hM : kN K = 11) (tx : Int → Int) (ty : Int) (td dr bg ss pa : Int → Int) (kn : Int) (im : Int → Int) (kp : Int) (ns : Int → Int) (nd ap la : Int) (hh tt : Int → Int) (v : SV) (hv : okV v) (hr : mR td ss v) (hkn : 0 ≤ kn ∧ kn ≤ 8) (a : Int) (ba : zB a)  : zCi K yX6_cook cX6_cook 2 (some .int) 1 [.ref (kad K 0), .int (iI a)] (layM K tx ty td dr bg ss pa kn im kp ns nd ap la hh tt) (fun z u => ((a < 1 ∨ 99 < a) ∧ z = -1 ∧ u = (layM K tx ty td dr bg ss pa kn im kp ns nd ap la hh tt)) ∨ ((1 ≤ a ∧ a ≤ 99) ∧ a ≤ qam v ∧ z = -2 ∧ u = (layM K tx ty td dr bg ss pa kn im kp ns nd ap la hh tt)) ∨ ((1 ≤ a ∧ a ≤ 99) ∧ qam v < a ∧ ∃ (p2 : Int → Int) (k2 : Int) (s2 : Int → Int), keepR pa ss kn p2 k2 ∧ z = a ∧ mR td s2 (cookV v a) ∧ u = (layM K tx ty td dr bg s2 p2 k2 im kp ns nd ap la hh tt))) := by
  obtain ⟨hn7, ham, hhe, hsa, hro, hfa, hm⟩ := id hv
  obtain ⟨r1, r2, r3, r4, r5, r6, rm⟩ := id hr
  obtain ⟨ba1, ba2⟩ := id ba
  refine zCi_in hI (by decide +kernel) (Nat.le_of_ble_eq_true rfl) (fun X O hE => ?_)
  refine n_iload_n O dX6_cook_0 rfl ?_
  refine r_iconst O dX6_cook_1 ?_
  refine r_bipush O (by decide +kernel) dX6_cook_2 ?_
  refine r_callS3i O (C_X6_in hI _ _ _ _ ⟨by omega, by omega⟩ ⟨by omega, by omega⟩ ⟨by omega, by omega⟩) q_X6_50 (by decide) (by decide) (Nat.le_of_ble_eq_true rfl) dX6_cook_4 (fun zz4 zu4 hz4 => ?_)
  obtain ⟨hzi4, rfl⟩ := hz4
  have hic4 := inI_c hzi4
  refine r_if_ne (tgt := 12) O ⟨by omega, by omega⟩ dX6_cook_7 (by decide) (fun hc7 => ?_) (fun hc7 => ?_)
  · skip
    refine n_iload_n O dX6_cook_12 rfl ?_
    refine n_aload_n O dX6_cook_13 rfl ?_
    refine m_get_ss O hM fl_X6_22 dX6_cook_14 ?_
    refine r_bipush O (by decide +kernel) dX6_cook_17 ?_
    refine m_ld_ss O hM (by omega) (by omega) dX6_cook_19 ?_
    refine r_icmp_gt (tgt := 26) O ⟨by omega, by omega⟩ ⟨by omega, by omega⟩ dX6_cook_20 (by decide) (fun hc20 => ?_) (fun hc20 => ?_)
    · skip
      refine n_aload_n O dX6_cook_26 rfl ?_
      refine r_callV0v O (C_X6_keeps hI hM _ _ _ _ _ _ _ _ _ _ _ _ _ _ _ _ hkn) q_X6_101 (by rw [hM]; decide) (fs := _) rfl rfl rfl (by decide) (by decide) (Nat.le_of_ble_eq_true rfl) dX6_cook_27 (fun zu27 hz27 => ?_)
      obtain ⟨p2, k2, hkr, rfl⟩ := hz27
      refine n_aload_n O dX6_cook_30 rfl ?_
      refine n_iload_n O dX6_cook_31 rfl ?_
      refine r_callV1v O (C_X6_cooks hI hM _ _ _ _ _ _ _ _ _ _ _ _ _ _ _ _ v hv hr a) q_X6_110 (by rw [hM]; decide) (fs := _) rfl rfl rfl (by decide) (by decide) (Nat.le_of_ble_eq_true rfl) dX6_cook_32 (fun zu32 hz32 => ?_)
      obtain ⟨s2, hr2, rfl⟩ := hz32
      refine n_iload_n O dX6_cook_35 rfl ?_
      exact hE _ _ _ _ dX6_cook_36 rfl (Or.inr (Or.inr ⟨by omega, by omega, _, _, _, hkr, rfl, hr2, rfl⟩))
    · skip
      refine r_bipush O (by decide +kernel) dX6_cook_23 ?_
      exact hE _ _ _ _ dX6_cook_25 rfl (Or.inr (Or.inl ⟨by omega, by omega, rfl, rfl⟩))
  · skip
    refine r_iconst O dX6_cook_10 ?_
    exact hE _ _ _ _ dX6_cook_11 rfl (Or.inl ⟨by omega, rfl, rfl⟩)
set_option maxHeartbeats 4000000 in
theorem C_X6_cool {K : zK} (hI : zInj K) (hM : kN K = 11) (tx : Int → Int) (ty : Int) (td dr bg ss pa : Int → Int) (kn : Int) (im : Int → Int) (kp : Int) (ns : Int → Int) (nd ap la : Int) (hh tt : Int → Int) (v : SV) (hv : okV v) (hr : mR td ss v) (hkn : 0 ≤ kn ∧ kn ≤ 8)  : zCi K yX6_cool cX6_cool 1 (some .int) 1 [.ref (kad K 0)] (layM K tx ty td dr bg ss pa kn im kp ns nd ap la hh tt) (fun z u => (qhe v ≤ 0 ∧ z = -2 ∧ u = (layM K tx ty td dr bg ss pa kn im kp ns nd ap la hh tt)) ∨ (0 < qhe v ∧ ∃ (p2 : Int → Int) (k2 : Int) (s2 : Int → Int), keepR pa ss kn p2 k2 ∧ z = qhe (waitV v) ∧ mR td s2 (waitV v) ∧ u = (layM K tx ty td dr bg s2 p2 k2 im kp ns nd ap la hh tt))) := by
  obtain ⟨hn7, ham, hhe, hsa, hro, hfa, hm⟩ := id hv
  obtain ⟨r1, r2, r3, r4, r5, r6, rm⟩ := id hr
  refine zCi_in hI (by decide +kernel) (Nat.le_of_ble_eq_true rfl) (fun X O hE => ?_)
  refine n_aload_n O dX6_cool_0 rfl ?_
  refine m_get_ss O hM fl_X6_22 dX6_cool_1 ?_
  refine r_bipush O (by decide +kernel) dX6_cool_4 ?_
  refine m_ld_ss O hM (by omega) (by omega) dX6_cool_6 ?_
  refine r_if_ne (tgt := 13) O ⟨by omega, by omega⟩ dX6_cool_7 (by decide) (fun hc7 => ?_) (fun hc7 => ?_)
  · skip
    refine n_aload_n O dX6_cool_13 rfl ?_
    refine r_callV0v O (C_X6_keeps hI hM _ _ _ _ _ _ _ _ _ _ _ _ _ _ _ _ hkn) q_X6_101 (by rw [hM]; decide) (fs := _) rfl rfl rfl (by decide) (by decide) (Nat.le_of_ble_eq_true rfl) dX6_cool_14 (fun zu14 hz14 => ?_)
    obtain ⟨p2, k2, hkr, rfl⟩ := hz14
    refine n_aload_n O dX6_cool_17 rfl ?_
    refine r_callV0v O (C_X6_cools hI hM _ _ _ _ _ _ _ _ _ _ _ _ _ _ _ _ v hv hr) q_X6_98 (by rw [hM]; decide) (fs := _) rfl rfl rfl (by decide) (by decide) (Nat.le_of_ble_eq_true rfl) dX6_cool_18 (fun zu18 hz18 => ?_)
    obtain ⟨s2, hr2, rfl⟩ := hz18
    refine n_aload_n O dX6_cool_21 rfl ?_
    refine m_get_ss O hM fl_X6_22 dX6_cool_22 ?_
    refine r_bipush O (by decide +kernel) dX6_cool_25 ?_
    refine m_ld_ss O hM (by omega) (by omega) dX6_cool_27 ?_
    exact hE _ _ _ _ dX6_cool_28 rfl (Or.inr ⟨by omega, _, _, _, hkr, hr2.2.2.1, hr2, rfl⟩)
  · skip
    refine r_bipush O (by decide +kernel) dX6_cool_10 ?_
    exact hE _ _ _ _ dX6_cool_12 rfl (Or.inl ⟨by omega, rfl, rfl⟩)
set_option maxHeartbeats 4000000 in
theorem C_X6_swaps {K : zK} (hI : zInj K) (hM : kN K = 11) (tx : Int → Int) (ty : Int) (td dr bg ss pa : Int → Int) (kn : Int) (im : Int → Int) (kp : Int) (ns : Int → Int) (nd ap la : Int) (hh tt : Int → Int) (v : SV) (hv : okV v) (hr : mR td ss v) (i k : Int) (hi0 : 0 ≤ i) (hi1 : i < qn v) (hk0 : 0 ≤ k) (hk1 : k < qn v)  : zCv K yX6_swaps cX6_swaps 5 0 [.ref (kad K 0), .int (iI i), .int (iI k)] (layM K tx ty td dr bg ss pa kn im kp ns nd ap la hh tt) (fun u => ∃ s2 : Int → Int, mR td s2 (exchV v i k) ∧ u = (layM K tx ty td dr bg s2 pa kn im kp ns nd ap la hh tt)) := by
  obtain ⟨hn7, ham, hhe, hsa, hro, hfa, hm⟩ := id hv
  obtain ⟨r1, r2, r3, r4, r5, r6, rm⟩ := id hr
  refine zCv_in hI (by decide +kernel) (Nat.le_of_ble_eq_true rfl) (fun X O hE => ?_)
  refine n_aload_n O dX6_swaps_0 rfl ?_
  refine m_get_ss O hM fl_X6_22 dX6_swaps_1 ?_
  refine n_iload_n O dX6_swaps_4 rfl ?_
  refine m_ld_ss O hM (by omega) (by omega) dX6_swaps_5 ?_
  refine n_istore_n O dX6_swaps_6 (by decide) rfl ?_
  refine n_aload_n O dX6_swaps_7 rfl ?_
  refine m_get_ss O hM fl_X6_22 dX6_swaps_8 ?_
  refine r_bipush O (by decide +kernel) dX6_swaps_11 ?_
  refine n_iload_n O dX6_swaps_13 rfl ?_
  refine r_iadd O dX6_swaps_14 ?_
  refine m_ld_ss O hM (by omega) (by omega) dX6_swaps_15 ?_
  refine n_istore O dX6_swaps_16 (by decide) rfl ?_
  refine n_aload_n O dX6_swaps_18 rfl ?_
  refine m_get_ss O hM fl_X6_22 dX6_swaps_19 ?_
  refine n_iload_n O dX6_swaps_22 rfl ?_
  refine n_aload_n O dX6_swaps_23 rfl ?_
  refine m_get_ss O hM fl_X6_22 dX6_swaps_24 ?_
  refine n_iload_n O dX6_swaps_27 rfl ?_
  refine m_ld_ss O hM (by omega) (by omega) dX6_swaps_28 ?_
  refine m_st_ss O hM (by omega) (by omega) dX6_swaps_29 ?_
  refine n_aload_n O dX6_swaps_30 rfl ?_
  refine m_get_ss O hM fl_X6_22 dX6_swaps_31 ?_
  refine r_bipush O (by decide +kernel) dX6_swaps_34 ?_
  refine n_iload_n O dX6_swaps_36 rfl ?_
  refine r_iadd O dX6_swaps_37 ?_
  refine n_aload_n O dX6_swaps_38 rfl ?_
  refine m_get_ss O hM fl_X6_22 dX6_swaps_39 ?_
  refine r_bipush O (by decide +kernel) dX6_swaps_42 ?_
  refine n_iload_n O dX6_swaps_44 rfl ?_
  refine r_iadd O dX6_swaps_45 ?_
  refine m_ld_ss O hM (by omega) (by omega) dX6_swaps_46 ?_
  refine m_st_ss O hM (by omega) (by omega) dX6_swaps_47 ?_
  refine n_aload_n O dX6_swaps_48 rfl ?_
  refine m_get_ss O hM fl_X6_22 dX6_swaps_49 ?_
  refine n_iload_n O dX6_swaps_52 rfl ?_
  refine n_iload_n O dX6_swaps_53 rfl ?_
  refine m_st_ss O hM (by omega) (by omega) dX6_swaps_54 ?_
  refine n_aload_n O dX6_swaps_55 rfl ?_
  refine m_get_ss O hM fl_X6_22 dX6_swaps_56 ?_
  refine r_bipush O (by decide +kernel) dX6_swaps_59 ?_
  refine n_iload_n O dX6_swaps_61 rfl ?_
  refine r_iadd O dX6_swaps_62 ?_
  refine n_iload O dX6_swaps_63 rfl ?_
  refine m_st_ss O hM (by omega) (by omega) dX6_swaps_65 ?_
  exact hE _ _ _ dX6_swaps_66 ⟨_, mR_exch hr (by omega) hi0 hi1 hk0 hk1, rfl⟩
set_option maxHeartbeats 4000000 in
theorem C_X6_trade {K : zK} (hI : zInj K) (hM : kN K = 11) (tx : Int → Int) (ty : Int) (td dr bg ss pa : Int → Int) (kn : Int) (im : Int → Int) (kp : Int) (ns : Int → Int) (nd ap la : Int) (hh tt : Int → Int) (v : SV) (hv : okV v) (hr : mR td ss v) (hkn : 0 ≤ kn ∧ kn ≤ 8) (i : Int) (bi : zB i) (k : Int) (bk : zB k)  : zCi K yX6_trade cX6_trade 3 (some .int) 2 [.ref (kad K 0), .int (iI i), .int (iI k)] (layM K tx ty td dr bg ss pa kn im kp ns nd ap la hh tt) (fun z u => (¬ ((0 ≤ i ∧ i < qn v) ∧ (0 ≤ k ∧ k < qn v) ∧ i ≠ k) ∧ z = -1 ∧ u = (layM K tx ty td dr bg ss pa kn im kp ns nd ap la hh tt)) ∨ (((0 ≤ i ∧ i < qn v) ∧ (0 ≤ k ∧ k < qn v) ∧ i ≠ k) ∧ ∃ (p2 : Int → Int) (k2 : Int) (s2 : Int → Int), keepR pa ss kn p2 k2 ∧ z = qsp (exchV v i k) i ∧ mR td s2 (exchV v i k) ∧ u = (layM K tx ty td dr bg s2 p2 k2 im kp ns nd ap la hh tt))) := by
  obtain ⟨hn7, ham, hhe, hsa, hro, hfa, hm⟩ := id hv
  obtain ⟨r1, r2, r3, r4, r5, r6, rm⟩ := id hr
  obtain ⟨bi1, bi2⟩ := id bi
  obtain ⟨bk1, bk2⟩ := id bk
  refine zCi_in hI (by decide +kernel) (Nat.le_of_ble_eq_true rfl) (fun X O hE => ?_)
  refine n_aload_n O dX6_trade_0 rfl ?_
  refine n_iload_n O dX6_trade_1 rfl ?_
  refine r_callV1i O (C_X6_isMember hI hM _ _ _ _ _ _ _ _ _ _ _ _ _ _ _ _ (by omega) _ ⟨by omega, by omega⟩) q_X6_89 (by rw [hM]; decide) (fs := _) rfl rfl rfl (by decide) (by decide) (Nat.le_of_ble_eq_true rfl) dX6_trade_2 (fun zz2 zu2 hz2 => ?_)
  obtain ⟨hzi2, rfl⟩ := hz2
  have hic2 := inI_c hzi2
  refine r_if_eq (tgt := 21) O ⟨by omega, by omega⟩ dX6_trade_5 (by decide) (fun hc5 => ?_) (fun hc5 => ?_)
  · skip
    refine r_iconst O dX6_trade_21 ?_
    exact hE _ _ _ _ dX6_trade_22 rfl (Or.inl ⟨by omega, rfl, rfl⟩)
  · skip
    refine n_aload_n O dX6_trade_8 rfl ?_
    refine n_iload_n O dX6_trade_9 rfl ?_
    refine r_callV1i O (C_X6_isMember hI hM _ _ _ _ _ _ _ _ _ _ _ _ _ _ _ _ (by omega) _ ⟨by omega, by omega⟩) q_X6_89 (by rw [hM]; decide) (fs := _) rfl rfl rfl (by decide) (by decide) (Nat.le_of_ble_eq_true rfl) dX6_trade_10 (fun zz10 zu10 hz10 => ?_)
    obtain ⟨hzi10, rfl⟩ := hz10
    have hic10 := inI_c hzi10
    refine r_if_eq (tgt := 21) O ⟨by omega, by omega⟩ dX6_trade_13 (by decide) (fun hc13 => ?_) (fun hc13 => ?_)
    · skip
      refine r_iconst O dX6_trade_21 ?_
      exact hE _ _ _ _ dX6_trade_22 rfl (Or.inl ⟨by omega, rfl, rfl⟩)
    · skip
      refine n_iload_n O dX6_trade_16 rfl ?_
      refine n_iload_n O dX6_trade_17 rfl ?_
      refine r_icmp_ne (tgt := 23) O ⟨by omega, by omega⟩ ⟨by omega, by omega⟩ dX6_trade_18 (by decide) (fun hc18 => ?_) (fun hc18 => ?_)
      · skip
        refine n_aload_n O dX6_trade_23 rfl ?_
        refine r_callV0v O (C_X6_keeps hI hM _ _ _ _ _ _ _ _ _ _ _ _ _ _ _ _ hkn) q_X6_101 (by rw [hM]; decide) (fs := _) rfl rfl rfl (by decide) (by decide) (Nat.le_of_ble_eq_true rfl) dX6_trade_24 (fun zu24 hz24 => ?_)
        obtain ⟨p2, k2, hkr, rfl⟩ := hz24
        refine n_aload_n O dX6_trade_27 rfl ?_
        refine n_iload_n O dX6_trade_28 rfl ?_
        refine n_iload_n O dX6_trade_29 rfl ?_
        refine r_callV2v O (C_X6_swaps hI hM _ _ _ _ _ _ _ _ _ _ _ _ _ _ _ _ v hv hr i k (by omega) (by omega) (by omega) (by omega)) q_X6_114 (by rw [hM]; decide) (fs := _) rfl rfl rfl (by decide) (by decide) (Nat.le_of_ble_eq_true rfl) dX6_trade_30 (fun zu30 hz30 => ?_)
        obtain ⟨s2, hr2, rfl⟩ := hz30
        refine n_aload_n O dX6_trade_33 rfl ?_
        refine m_get_ss O hM fl_X6_22 dX6_trade_34 ?_
        refine r_bipush O (by decide +kernel) dX6_trade_37 ?_
        refine n_iload_n O dX6_trade_39 rfl ?_
        refine r_iadd O dX6_trade_40 ?_
        refine m_ld_ss O hM (by omega) (by omega) dX6_trade_41 ?_
        exact hE _ _ _ _ dX6_trade_42 rfl (Or.inr ⟨by omega, _, _, _, hkr, (hr2.2.2.2.2.2.2 i (by omega) (by show i < qn v; omega)).2.1, hr2, rfl⟩)
      · skip
        refine r_iconst O dX6_trade_21 ?_
        exact hE _ _ _ _ dX6_trade_22 rfl (Or.inl ⟨by omega, rfl, rfl⟩)
set_option maxHeartbeats 4000000 in
theorem C_X6_sumOf {K : zK} (hI : zInj K) (hM : kN K = 11) (tx : Int → Int) (ty : Int) (td dr bg ss pa : Int → Int) (kn : Int) (im : Int → Int) (kp : Int) (ns : Int → Int) (nd ap la : Int) (hh tt : Int → Int) (n : Nat) (hn : n ≤ 7) (h0 : td 0 = (n : Int)) (p : Int) (hp : 0 ≤ p ∧ p ≤ 24) : zCi K yX6_sumOf cX6_sumOf 4 (some .int) 0 [.ref (kad K 0), .int (iI p)] (layM K tx ty td dr bg ss pa kn im kp ns nd ap la hh tt) (fun z u => z = sumI (fun i => ss (p + i)) n ∧ u = (layM K tx ty td dr bg ss pa kn im kp ns nd ap la hh tt)) := by
  refine zCi_in hI (by decide +kernel) (Nat.le_of_ble_eq_true rfl) (fun X O hE => ?_)
  refine r_iconst O dX6_sumOf_0 ?_
  refine n_istore_n O dX6_sumOf_1 (by decide) rfl ?_
  refine r_iconst O dX6_sumOf_2 ?_
  refine n_istore_n O dX6_sumOf_3 (by decide) rfl ?_
  have L4 : ∀ (zk : Nat) (k : Nat), (k ≤ n) → 7 - k = zk → G K X 4 4 [(0, .ref (kad K 0)), (1, .int (iI p)), (2, .int (iI (sumI (fun i => ss (p + i)) k))), (3, .int (iI (k : Int)))] [] (layM K tx ty td dr bg ss pa kn im kp ns nd ap la hh tt) := by
    intro zk
    induction zk using Nat.strongRecOn with
    | ind zk ih4 =>
      intro k hinv hk
      refine n_iload_n O dX6_sumOf_4 rfl ?_
      refine n_aload_n O dX6_sumOf_5 rfl ?_
      refine m_get_td O hM fl_X6_13 dX6_sumOf_6 ?_
      refine r_iconst O dX6_sumOf_9 ?_
      refine m_ld_td O hM (by omega) (by omega) dX6_sumOf_10 ?_
      refine r_icmp_ge (tgt := 31) O ⟨by omega, by omega⟩ ⟨by omega, by omega⟩ dX6_sumOf_11 (by decide) (fun hc11 => ?_) (fun hc11 => ?_)
      · skip
        refine n_iload_n O dX6_sumOf_31 rfl ?_
        exact hE _ _ _ _ dX6_sumOf_32 rfl ⟨by (have e : k = n := by omega); rw [e], rfl⟩
      · skip
        refine n_iload_n O dX6_sumOf_14 rfl ?_
        refine n_aload_n O dX6_sumOf_15 rfl ?_
        refine m_get_ss O hM fl_X6_22 dX6_sumOf_16 ?_
        refine n_iload_n O dX6_sumOf_19 rfl ?_
        refine n_iload_n O dX6_sumOf_20 rfl ?_
        refine r_iadd O dX6_sumOf_21 ?_
        refine m_ld_ss O hM (by omega) (by omega) dX6_sumOf_22 ?_
        refine r_iadd O dX6_sumOf_23 ?_
        refine n_istore_n O dX6_sumOf_24 (by decide) rfl ?_
        refine n_iinc O dX6_sumOf_25 (by decide) rfl rfl ?_
        refine r_goto (tgt := 4) O dX6_sumOf_28 (by decide) ?_
        exact G_chk (ih4 _ (by omega) (k + 1) (by omega) rfl) (zsc rfl (zsc rfl (zsc rfl (zsc rfl zsn))))
  exact G_chk (L4 _ 0 (by omega) rfl) (zsc rfl (zsc rfl (zsc rfl (zsc rfl zsn))))
set_option maxHeartbeats 4000000 in
theorem C_X6_starves {K : zK} (hI : zInj K) (hM : kN K = 11) (tx : Int → Int) (ty : Int) (td dr bg ss pa : Int → Int) (kn : Int) (im : Int → Int) (kp : Int) (ns : Int → Int) (nd ap la : Int) (hh tt : Int → Int) (v : SV) (hv : okV v) (hr : mR td ss v)  : zCv K yX6_starves cX6_starves 3 0 [.ref (kad K 0)] (layM K tx ty td dr bg ss pa kn im kp ns nd ap la hh tt) (fun u => ∃ s2 : Int → Int, mR td s2 (fastV v) ∧ u = (layM K tx ty td dr bg s2 pa kn im kp ns nd ap la hh tt)) := by
  obtain ⟨hn7, ham, hhe, hsa, hro, hfa, hm⟩ := id hv
  obtain ⟨r1, r2, r3, r4, r5, r6, rm⟩ := id hr
  refine zCv_in hI (by decide +kernel) (Nat.le_of_ble_eq_true rfl) (fun X O hE => ?_)
  refine r_iconst O dX6_starves_0 ?_
  refine n_istore_n O dX6_starves_1 (by decide) rfl ?_
  have L2 : ∀ (zk : Nat) (k : Nat) (s1 : Int → Int), (fastJ td ss v s1 k) → 7 - k = zk → G K X 3 2 [(0, .ref (kad K 0)), (1, .int (iI (k : Int)))] [] (layM K tx ty td dr bg s1 pa kn im kp ns nd ap la hh tt) := by
    intro zk
    induction zk using Nat.strongRecOn with
    | ind zk ih2 =>
      intro k s1 hinv hk
      have hk := hinv.1
      refine n_iload_n O dX6_starves_2 rfl ?_
      refine n_aload_n O dX6_starves_3 rfl ?_
      refine m_get_td O hM fl_X6_13 dX6_starves_4 ?_
      refine r_iconst O dX6_starves_7 ?_
      refine m_ld_td O hM (by omega) (by omega) dX6_starves_8 ?_
      refine r_icmp_ge (tgt := 56) O ⟨by omega, by omega⟩ ⟨by omega, by omega⟩ dX6_starves_9 (by decide) (fun hc9 => ?_) (fun hc9 => ?_)
      · skip
        refine n_aload_n O dX6_starves_56 rfl ?_
        refine m_get_ss O hM fl_X6_22 dX6_starves_57 ?_
        refine r_bipush O (by decide +kernel) dX6_starves_60 ?_
        refine r_iconst O dX6_starves_62 ?_
        refine m_st_ss O hM (by omega) (by omega) dX6_starves_63 ?_
        exact hE _ _ _ dX6_starves_64 ⟨_, fastJ_e hinv hr (by omega) (by omega), rfl⟩
      · skip
        have hfb := fastJ_b hinv hr hv (by omega)
        refine n_aload_n O dX6_starves_12 rfl ?_
        refine m_get_ss O hM fl_X6_22 dX6_starves_13 ?_
        refine r_bipush O (by decide +kernel) dX6_starves_16 ?_
        refine n_iload_n O dX6_starves_18 rfl ?_
        refine r_iadd O dX6_starves_19 ?_
        refine m_ld_ss O hM (by omega) (by omega) dX6_starves_20 ?_
        refine n_aload_n O dX6_starves_21 rfl ?_
        refine m_get_td O hM fl_X6_13 dX6_starves_22 ?_
        refine r_iconst O dX6_starves_25 ?_
        refine m_ld_td O hM (by omega) (by omega) dX6_starves_26 ?_
        refine r_iadd O dX6_starves_27 ?_
        refine n_istore_n O dX6_starves_28 (by decide) rfl ?_
        refine n_aload_n O dX6_starves_29 rfl ?_
        refine m_get_ss O hM fl_X6_22 dX6_starves_30 ?_
        refine r_bipush O (by decide +kernel) dX6_starves_33 ?_
        refine n_iload_n O dX6_starves_35 rfl ?_
        refine r_iadd O dX6_starves_36 ?_
        refine n_iload_n O dX6_starves_37 rfl ?_
        refine r_bipush O (by decide +kernel) dX6_starves_38 ?_
        refine r_icmp_le (tgt := 48) O ⟨by omega, by omega⟩ ⟨by omega, by omega⟩ dX6_starves_40 (by decide) (fun hc40 => ?_) (fun hc40 => ?_)
        · skip
          refine n_iload_n O dX6_starves_48 rfl ?_
          refine m_st_ss O hM (by omega) (by omega) dX6_starves_49 ?_
          refine n_iinc O dX6_starves_50 (by decide) rfl rfl ?_
          refine r_goto (tgt := 2) O dX6_starves_53 (by decide) ?_
          exact G_chk (ih2 _ (by omega) (k + 1) _ (fastJ_st hinv hr (by omega) (by omega)) rfl) (zsc rfl (zsc rfl zsn))
        · skip
          refine r_bipush O (by decide +kernel) dX6_starves_43 ?_
          refine r_goto (tgt := 49) O dX6_starves_45 (by decide) ?_
          refine m_st_ss O hM (by omega) (by omega) dX6_starves_49 ?_
          refine n_iinc O dX6_starves_50 (by decide) rfl rfl ?_
          refine r_goto (tgt := 2) O dX6_starves_53 (by decide) ?_
          exact G_chk (ih2 _ (by omega) (k + 1) _ (fastJ_st hinv hr (by omega) (by omega)) rfl) (zsc rfl (zsc rfl zsn))
  exact G_chk (L2 _ 0 ss ⟨by omega, fun y _ => rfl, fun y h0 h1 => by omega⟩ rfl) (zsc rfl (zsc rfl zsn))
set_option maxHeartbeats 4000000 in
theorem C_X6_fast {K : zK} (hI : zInj K) (hM : kN K = 11) (tx : Int → Int) (ty : Int) (td dr bg ss pa : Int → Int) (kn : Int) (im : Int → Int) (kp : Int) (ns : Int → Int) (nd ap la : Int) (hh tt : Int → Int) (v : SV) (hv : okV v) (hr : mR td ss v) (hkn : 0 ≤ kn ∧ kn ≤ 8)  : zCi K yX6_fast cX6_fast 1 (some .int) 1 [.ref (kad K 0)] (layM K tx ty td dr bg ss pa kn im kp ns nd ap la hh tt) (fun z u => ∃ (p2 : Int → Int) (k2 : Int) (s2 : Int → Int), keepR pa ss kn p2 k2 ∧ z = sumI (qhu (fastV v)) (qn v).toNat ∧ mR td s2 (fastV v) ∧ u = (layM K tx ty td dr bg s2 p2 k2 im kp ns nd ap la hh tt)) := by
  obtain ⟨hn7, ham, hhe, hsa, hro, hfa, hm⟩ := id hv
  obtain ⟨r1, r2, r3, r4, r5, r6, rm⟩ := id hr
  refine zCi_in hI (by decide +kernel) (Nat.le_of_ble_eq_true rfl) (fun X O hE => ?_)
  refine n_aload_n O dX6_fast_0 rfl ?_
  refine r_callV0v O (C_X6_keeps hI hM _ _ _ _ _ _ _ _ _ _ _ _ _ _ _ _ hkn) q_X6_101 (by rw [hM]; decide) (fs := _) rfl rfl rfl (by decide) (by decide) (Nat.le_of_ble_eq_true rfl) dX6_fast_1 (fun zu1 hz1 => ?_)
  obtain ⟨p2, k2, hkr, rfl⟩ := hz1
  refine n_aload_n O dX6_fast_4 rfl ?_
  refine r_callV0v O (C_X6_starves hI hM _ _ _ _ _ _ _ _ _ _ _ _ _ _ _ _ v hv hr) q_X6_118 (by rw [hM]; decide) (fs := _) rfl rfl rfl (by decide) (by decide) (Nat.le_of_ble_eq_true rfl) dX6_fast_5 (fun zu5 hz5 => ?_)
  obtain ⟨s2, hr2, rfl⟩ := hz5
  refine n_aload_n O dX6_fast_8 rfl ?_
  refine r_bipush O (by decide +kernel) dX6_fast_9 ?_
  refine r_callV1i O (C_X6_sumOf hI hM _ _ _ _ _ _ _ _ _ _ _ _ _ _ _ _ (qn v).toNat (by omega) (by omega) 14 (by omega)) q_X6_121 (by rw [hM]; decide) (fs := _) rfl rfl rfl (by decide) (by decide) (Nat.le_of_ble_eq_true rfl) dX6_fast_11 (fun zz11 zu11 hz11 => ?_)
  obtain ⟨rfl, rfl⟩ := hz11
  exact hE _ _ _ _ dX6_fast_14 rfl ⟨_, _, _, hkr, sum_hu hr2 (show 0 ≤ qn v by omega), hr2, rfl⟩
set_option maxHeartbeats 4000000 in
theorem C_X6_undo {K : zK} (hI : zInj K) (hM : kN K = 11) (tx : Int → Int) (ty : Int) (td dr bg ss pa : Int → Int) (kn : Int) (im : Int → Int) (kp : Int) (ns : Int → Int) (nd ap la : Int) (hh tt : Int → Int) (hkn : 0 ≤ kn ∧ kn ≤ 8)  : zCi K yX6_undo cX6_undo 2 (some .int) 0 [.ref (kad K 0)] (layM K tx ty td dr bg ss pa kn im kp ns nd ap la hh tt) (fun z u => (kn = 0 ∧ z = -2 ∧ u = (layM K tx ty td dr bg ss pa kn im kp ns nd ap la hh tt)) ∨ (1 ≤ kn ∧ z = kn - 1 ∧ ∃ s2 : Int → Int, (∀ y : Int, 0 ≤ y → y < 31 → s2 y = pa (31 * (kn - 1) + y)) ∧ u = (layM K tx ty td dr bg s2 pa (kn - 1) im kp ns nd ap la hh tt))) := by
  refine zCi_in hI (by decide +kernel) (Nat.le_of_ble_eq_true rfl) (fun X O hE => ?_)
  refine n_aload_n O dX6_undo_0 rfl ?_
  refine m_get_kn O hM fl_X6_80 dX6_undo_1 ?_
  refine r_if_ne (tgt := 10) O ⟨by omega, by omega⟩ dX6_undo_4 (by decide) (fun hc4 => ?_) (fun hc4 => ?_)
  · skip
    refine n_aload_n O dX6_undo_10 rfl ?_
    refine r_dup O rfl dX6_undo_11 ?_
    refine m_get_kn O hM fl_X6_80 dX6_undo_12 ?_
    refine r_iconst O dX6_undo_15 ?_
    refine r_isub O dX6_undo_16 ?_
    refine m_put_kn O hM fl_X6_80 dX6_undo_17 ?_
    refine r_iconst O dX6_undo_20 ?_
    refine n_istore_n O dX6_undo_21 (by decide) rfl ?_
    have L22 : ∀ (zk : Nat) (i : Int) (s1 : Int → Int), ((0 ≤ i ∧ i ≤ 31) ∧ ∀ y : Int, 0 ≤ y → y < i → s1 y = pa (31 * (kn - 1) + y)) → (31 - i).toNat = zk → G K X 2 22 [(0, .ref (kad K 0)), (1, .int (iI i))] [] (layM K tx ty td dr bg s1 pa (kn - 1) im kp ns nd ap la hh tt) := by
      intro zk
      induction zk using Nat.strongRecOn with
      | ind zk ih22 =>
        intro i s1 hinv hk
        obtain ⟨hi, hq⟩ := hinv
        refine n_iload_n O dX6_undo_22 rfl ?_
        refine r_bipush O (by decide +kernel) dX6_undo_23 ?_
        refine r_icmp_ge (tgt := 54) O ⟨by omega, by omega⟩ ⟨by omega, by omega⟩ dX6_undo_25 (by decide) (fun hc25 => ?_) (fun hc25 => ?_)
        · skip
          refine n_aload_n O dX6_undo_54 rfl ?_
          refine m_get_kn O hM fl_X6_80 dX6_undo_55 ?_
          exact hE _ _ _ _ dX6_undo_58 rfl (Or.inr ⟨by omega, rfl, _, fun y h0 h1 => hq y h0 (by omega), rfl⟩)
        · skip
          refine n_aload_n O dX6_undo_28 rfl ?_
          refine m_get_ss O hM fl_X6_22 dX6_undo_29 ?_
          refine n_iload_n O dX6_undo_32 rfl ?_
          refine n_aload_n O dX6_undo_33 rfl ?_
          refine m_get_pa O hM fl_X6_25 dX6_undo_34 ?_
          refine r_bipush O (by decide +kernel) dX6_undo_37 ?_
          refine n_aload_n O dX6_undo_39 rfl ?_
          refine m_get_kn O hM fl_X6_80 dX6_undo_40 ?_
          refine r_imul O dX6_undo_43 ?_
          refine n_iload_n O dX6_undo_44 rfl ?_
          refine r_iadd O dX6_undo_45 ?_
          refine m_ld_pa O hM (by omega) (by omega) dX6_undo_46 ?_
          refine m_st_ss O hM (by omega) (by omega) dX6_undo_47 ?_
          refine n_iinc O dX6_undo_48 (by decide) rfl rfl ?_
          refine r_goto (tgt := 22) O dX6_undo_51 (by decide) ?_
          exact G_chk (ih22 _ (by omega) (i + 1) _ ⟨by omega, fun y h0 h1 => by by_cases e : y = i; (rw [e, uI_s]); (rw [uI_n _ _ e]; exact hq y h0 (by omega))⟩ rfl) (zsc rfl (zsc rfl zsn))
    exact G_chk (L22 _ 0 ss ⟨by omega, fun y h0 h1 => by omega⟩ rfl) (zsc rfl (zsc rfl zsn))
  · skip
    refine r_bipush O (by decide +kernel) dX6_undo_7 ?_
    exact hE _ _ _ _ dX6_undo_9 rfl (Or.inl ⟨by omega, rfl, rfl⟩)
set_option maxHeartbeats 4000000 in
theorem C_X6_holds {K : zK} (hI : zInj K) (hM : kN K = 11) (tx : Int → Int) (ty : Int) (td dr bg ss pa : Int → Int) (kn : Int) (im : Int → Int) (kp : Int) (ns : Int → Int) (nd ap la : Int) (hh tt : Int → Int)  : zCv K yX6_holds cX6_holds 2 0 [.ref (kad K 0)] (layM K tx ty td dr bg ss pa kn im kp ns nd ap la hh tt) (fun u => ∃ h2 : Int → Int, (∀ y : Int, 0 ≤ y → y < 31 → h2 y = ss y) ∧ u = (layM K tx ty td dr bg ss pa kn im kp ns nd ap la h2 tt)) := by
  refine zCv_in hI (by decide +kernel) (Nat.le_of_ble_eq_true rfl) (fun X O hE => ?_)
  refine r_iconst O dX6_holds_0 ?_
  refine n_istore_n O dX6_holds_1 (by decide) rfl ?_
  have L2 : ∀ (zk : Nat) (i : Int) (f1 : Int → Int), ((0 ≤ i ∧ i ≤ 31) ∧ ∀ y : Int, 0 ≤ y → y < i → f1 y = ss y) → (31 - i).toNat = zk → G K X 2 2 [(0, .ref (kad K 0)), (1, .int (iI i))] [] (layM K tx ty td dr bg ss pa kn im kp ns nd ap la f1 tt) := by
    intro zk
    induction zk using Nat.strongRecOn with
    | ind zk ih2 =>
      intro i f1 hinv hk
      obtain ⟨hi, hq⟩ := hinv
      refine n_iload_n O dX6_holds_2 rfl ?_
      refine r_bipush O (by decide +kernel) dX6_holds_3 ?_
      refine r_icmp_ge (tgt := 26) O ⟨by omega, by omega⟩ ⟨by omega, by omega⟩ dX6_holds_5 (by decide) (fun hc5 => ?_) (fun hc5 => ?_)
      · skip
        exact hE _ _ _ dX6_holds_26 ⟨_, fun y h0 h1 => hq y h0 (by omega), rfl⟩
      · skip
        refine n_aload_n O dX6_holds_8 rfl ?_
        refine m_get_hh O hM fl_X6_34 dX6_holds_9 ?_
        refine n_iload_n O dX6_holds_12 rfl ?_
        refine n_aload_n O dX6_holds_13 rfl ?_
        refine m_get_ss O hM fl_X6_22 dX6_holds_14 ?_
        refine n_iload_n O dX6_holds_17 rfl ?_
        refine m_ld_ss O hM (by omega) (by omega) dX6_holds_18 ?_
        refine m_st_hh O hM (by omega) (by omega) dX6_holds_19 ?_
        refine n_iinc O dX6_holds_20 (by decide) rfl rfl ?_
        refine r_goto (tgt := 2) O dX6_holds_23 (by decide) ?_
        exact G_chk (ih2 _ (by omega) (i + 1) _ ⟨by omega, fun y h0 h1 => by by_cases e : y = i; (rw [e, uI_s]); (rw [uI_n _ _ e]; exact hq y h0 (by omega))⟩ rfl) (zsc rfl (zsc rfl zsn))
  exact G_chk (L2 _ 0 hh ⟨by omega, fun y h0 h1 => by omega⟩ rfl) (zsc rfl (zsc rfl zsn))
set_option maxHeartbeats 4000000 in
theorem C_X6_lets {K : zK} (hI : zInj K) (hM : kN K = 11) (tx : Int → Int) (ty : Int) (td dr bg ss pa : Int → Int) (kn : Int) (im : Int → Int) (kp : Int) (ns : Int → Int) (nd ap la : Int) (hh tt : Int → Int)  : zCv K yX6_lets cX6_lets 2 0 [.ref (kad K 0)] (layM K tx ty td dr bg ss pa kn im kp ns nd ap la hh tt) (fun u => ∃ s2 : Int → Int, (∀ y : Int, 0 ≤ y → y < 31 → s2 y = hh y) ∧ u = (layM K tx ty td dr bg s2 pa kn im kp ns nd ap la hh tt)) := by
  refine zCv_in hI (by decide +kernel) (Nat.le_of_ble_eq_true rfl) (fun X O hE => ?_)
  refine r_iconst O dX6_lets_0 ?_
  refine n_istore_n O dX6_lets_1 (by decide) rfl ?_
  have L2 : ∀ (zk : Nat) (i : Int) (f1 : Int → Int), ((0 ≤ i ∧ i ≤ 31) ∧ ∀ y : Int, 0 ≤ y → y < i → f1 y = hh y) → (31 - i).toNat = zk → G K X 2 2 [(0, .ref (kad K 0)), (1, .int (iI i))] [] (layM K tx ty td dr bg f1 pa kn im kp ns nd ap la hh tt) := by
    intro zk
    induction zk using Nat.strongRecOn with
    | ind zk ih2 =>
      intro i f1 hinv hk
      obtain ⟨hi, hq⟩ := hinv
      refine n_iload_n O dX6_lets_2 rfl ?_
      refine r_bipush O (by decide +kernel) dX6_lets_3 ?_
      refine r_icmp_ge (tgt := 26) O ⟨by omega, by omega⟩ ⟨by omega, by omega⟩ dX6_lets_5 (by decide) (fun hc5 => ?_) (fun hc5 => ?_)
      · skip
        exact hE _ _ _ dX6_lets_26 ⟨_, fun y h0 h1 => hq y h0 (by omega), rfl⟩
      · skip
        refine n_aload_n O dX6_lets_8 rfl ?_
        refine m_get_ss O hM fl_X6_22 dX6_lets_9 ?_
        refine n_iload_n O dX6_lets_12 rfl ?_
        refine n_aload_n O dX6_lets_13 rfl ?_
        refine m_get_hh O hM fl_X6_34 dX6_lets_14 ?_
        refine n_iload_n O dX6_lets_17 rfl ?_
        refine m_ld_hh O hM (by omega) (by omega) dX6_lets_18 ?_
        refine m_st_ss O hM (by omega) (by omega) dX6_lets_19 ?_
        refine n_iinc O dX6_lets_20 (by decide) rfl rfl ?_
        refine r_goto (tgt := 2) O dX6_lets_23 (by decide) ?_
        exact G_chk (ih2 _ (by omega) (i + 1) _ ⟨by omega, fun y h0 h1 => by by_cases e : y = i; (rw [e, uI_s]); (rw [uI_n _ _ e]; exact hq y h0 (by omega))⟩ rfl) (zsc rfl (zsc rfl zsn))
  exact G_chk (L2 _ 0 ss ⟨by omega, fun y h0 h1 => by omega⟩ rfl) (zsc rfl (zsc rfl zsn))
set_option maxHeartbeats 4000000 in
theorem C_X6_passesBy {K : zK} (hI : zInj K) (hM : kN K = 11) (tx : Int → Int) (ty : Int) (td dr bg ss pa : Int → Int) (kn : Int) (im : Int → Int) (kp : Int) (ns : Int → Int) (nd ap la : Int) (hh tt : Int → Int) (v : SV) (hv : okV v) (hr : mR td ss v) (s : Nat) (hs : s < 128)  : zCi K yX6_passesBy cX6_passesBy 5 (some .int) 2 [.ref (kad K 0), .int (iI (s : Int))] (layM K tx ty td dr bg ss pa kn im kp ns nd ap la hh tt) (fun z u => untilQ v s z ∧ ∃ (s2 t2 : Int → Int) (w : Int), mR td s2 v ∧ whoP v s z w ∧ u = (layM K tx ty td dr bg s2 pa kn im kp ns nd ap w hh t2)) := by
  obtain ⟨hn7, ham, hhe, hsa, hro, hfa, hm⟩ := id hv
  obtain ⟨r1, r2, r3, r4, r5, r6, rm⟩ := id hr
  refine zCi_in hI (by decide +kernel) (Nat.le_of_ble_eq_true rfl) (fun X O hE => ?_)
  refine r_iconst O dX6_passesBy_0 ?_
  refine n_istore_n O dX6_passesBy_1 (by decide) rfl ?_
  have L2 : ∀ (zk : Nat) (i : Int) (f1 : Int → Int), ((0 ≤ i ∧ i ≤ 31) ∧ ∀ y : Int, 0 ≤ y → y < i → f1 y = ss y) → (31 - i).toNat = zk → G K X 5 2 [(0, .ref (kad K 0)), (1, .int (iI (s : Int))), (2, .int (iI i))] [] (layM K tx ty td dr bg ss pa kn im kp ns nd ap la hh f1) := by
    intro zk
    induction zk using Nat.strongRecOn with
    | ind zk ih2 =>
      intro i f1 hinv hk
      obtain ⟨hi, hq⟩ := hinv
      refine n_iload_n O dX6_passesBy_2 rfl ?_
      refine r_bipush O (by decide +kernel) dX6_passesBy_3 ?_
      refine r_icmp_ge (tgt := 26) O ⟨by omega, by omega⟩ ⟨by omega, by omega⟩ dX6_passesBy_5 (by decide) (fun hc5 => ?_) (fun hc5 => ?_)
      · skip
        refine r_bipush O (by decide +kernel) dX6_passesBy_26 ?_
        refine n_istore_n O dX6_passesBy_28 (by decide) rfl ?_
        refine r_bipush O (by decide +kernel) dX6_passesBy_29 ?_
        refine n_istore_n O dX6_passesBy_31 (by decide) rfl ?_
        refine r_iconst O dX6_passesBy_32 ?_
        refine n_istore O dX6_passesBy_33 (by decide) rfl ?_
        have L35 : ∀ (zk : Nat) (k : Nat) (s1 : Int → Int) (lb fd wh : Int), (passJ v s td k s1 lb fd wh ∧ (k : Int) ≤ qro v + 1 ∧ zB fd) → 22 - k = zk → G K X 5 35 [(0, .ref (kad K 0)), (1, .int (iI (s : Int))), (2, .int (iI fd)), (3, .int (iI wh)), (4, .int (iI (k : Int)))] [] (layM K tx ty td dr bg s1 pa kn im kp ns nd ap lb hh f1) := by
          intro zk
          induction zk using Nat.strongRecOn with
          | ind zk ih35 =>
            intro k s1 lb fd wh hinv hk
            obtain ⟨hj, hk, hfb⟩ := hinv
            obtain ⟨hfb1, hfb2⟩ := id hfb
            refine n_iload O dX6_passesBy_35 rfl ?_
            refine n_aload_n O dX6_passesBy_37 rfl ?_
            refine m_get_td O hM fl_X6_13 dX6_passesBy_38 ?_
            refine r_iconst O dX6_passesBy_41 ?_
            refine m_ld_td O hM (by omega) (by omega) dX6_passesBy_42 ?_
            refine r_icmp_gt (tgt := 114) O ⟨by omega, by omega⟩ ⟨by omega, by omega⟩ dX6_passesBy_43 (by decide) (fun hc43 => ?_) (fun hc43 => ?_)
            · skip
              refine n_aload_n O dX6_passesBy_114 rfl ?_
              refine n_iload_n O dX6_passesBy_115 rfl ?_
              refine m_put_la O hM fl_X6_95 dX6_passesBy_116 ?_
              refine r_iconst O dX6_passesBy_119 ?_
              refine n_istore O dX6_passesBy_120 (by decide) rfl ?_
              have hend := passJ_e hj (by omega)
              have L122 : ∀ (zk : Nat) (i2 : Int) (s3 : Int → Int), ((0 ≤ i2 ∧ i2 ≤ 31) ∧ ∀ y : Int, 0 ≤ y → y < i2 → s3 y = f1 y) → (31 - i2).toNat = zk → G K X 5 122 [(0, .ref (kad K 0)), (1, .int (iI (s : Int))), (2, .int (iI fd)), (3, .int (iI wh)), (4, .int (iI i2))] [] (layM K tx ty td dr bg s3 pa kn im kp ns nd ap wh hh f1) := by
                intro zk
                induction zk using Nat.strongRecOn with
                | ind zk ih122 =>
                  intro i2 s3 hinv hk
                  obtain ⟨hi2, hq5⟩ := hinv
                  refine n_iload O dX6_passesBy_122 rfl ?_
                  refine r_bipush O (by decide +kernel) dX6_passesBy_124 ?_
                  refine r_icmp_ge (tgt := 149) O ⟨by omega, by omega⟩ ⟨by omega, by omega⟩ dX6_passesBy_126 (by decide) (fun hc126 => ?_) (fun hc126 => ?_)
                  · skip
                    refine n_iload_n O dX6_passesBy_149 rfl ?_
                    exact hE _ _ _ _ dX6_passesBy_150 rfl ⟨hend.1, _, _, _, mR_31 hr (by omega) (fun y h0 h1 => (hq5 y h0 (by omega)).trans (hq y h0 (by omega))), hend.2, rfl⟩
                  · skip
                    refine n_aload_n O dX6_passesBy_129 rfl ?_
                    refine m_get_ss O hM fl_X6_22 dX6_passesBy_130 ?_
                    refine n_iload O dX6_passesBy_133 rfl ?_
                    refine n_aload_n O dX6_passesBy_135 rfl ?_
                    refine m_get_tt O hM fl_X6_37 dX6_passesBy_136 ?_
                    refine n_iload O dX6_passesBy_139 rfl ?_
                    refine m_ld_tt O hM (by omega) (by omega) dX6_passesBy_141 ?_
                    refine m_st_ss O hM (by omega) (by omega) dX6_passesBy_142 ?_
                    refine n_iinc O dX6_passesBy_143 (by decide) rfl rfl ?_
                    refine r_goto (tgt := 122) O dX6_passesBy_146 (by decide) ?_
                    exact G_chk (ih122 _ (by omega) (i2 + 1) _ ⟨by omega, fun y h0 h1 => by by_cases e : y = i2; (rw [e, uI_s]); (rw [uI_n _ _ e]; exact hq5 y h0 (by omega))⟩ rfl) (zsc rfl (zsc rfl (zsc rfl (zsc rfl (zsc rfl zsn)))))
              exact G_chk (L122 _ 0 s1 ⟨by omega, fun y h0 h1 => by omega⟩ rfl) (zsc rfl (zsc rfl (zsc rfl (zsc rfl (zsc rfl zsn)))))
            · skip
              refine n_iload_n O dX6_passesBy_46 rfl ?_
              refine r_bipush O (by decide +kernel) dX6_passesBy_47 ?_
              refine r_icmp_ne (tgt := 114) O ⟨by omega, by omega⟩ ⟨by omega, by omega⟩ dX6_passesBy_49 (by decide) (fun hc49 => ?_) (fun hc49 => ?_)
              · skip
                refine n_aload_n O dX6_passesBy_114 rfl ?_
                refine n_iload_n O dX6_passesBy_115 rfl ?_
                refine m_put_la O hM fl_X6_95 dX6_passesBy_116 ?_
                refine r_iconst O dX6_passesBy_119 ?_
                refine n_istore O dX6_passesBy_120 (by decide) rfl ?_
                have hend := passJ_e hj (by omega)
                have L122 : ∀ (zk : Nat) (i2 : Int) (s3 : Int → Int), ((0 ≤ i2 ∧ i2 ≤ 31) ∧ ∀ y : Int, 0 ≤ y → y < i2 → s3 y = f1 y) → (31 - i2).toNat = zk → G K X 5 122 [(0, .ref (kad K 0)), (1, .int (iI (s : Int))), (2, .int (iI fd)), (3, .int (iI wh)), (4, .int (iI i2))] [] (layM K tx ty td dr bg s3 pa kn im kp ns nd ap wh hh f1) := by
                  intro zk
                  induction zk using Nat.strongRecOn with
                  | ind zk ih122 =>
                    intro i2 s3 hinv hk
                    obtain ⟨hi2, hq5⟩ := hinv
                    refine n_iload O dX6_passesBy_122 rfl ?_
                    refine r_bipush O (by decide +kernel) dX6_passesBy_124 ?_
                    refine r_icmp_ge (tgt := 149) O ⟨by omega, by omega⟩ ⟨by omega, by omega⟩ dX6_passesBy_126 (by decide) (fun hc126 => ?_) (fun hc126 => ?_)
                    · skip
                      refine n_iload_n O dX6_passesBy_149 rfl ?_
                      exact hE _ _ _ _ dX6_passesBy_150 rfl ⟨hend.1, _, _, _, mR_31 hr (by omega) (fun y h0 h1 => (hq5 y h0 (by omega)).trans (hq y h0 (by omega))), hend.2, rfl⟩
                    · skip
                      refine n_aload_n O dX6_passesBy_129 rfl ?_
                      refine m_get_ss O hM fl_X6_22 dX6_passesBy_130 ?_
                      refine n_iload O dX6_passesBy_133 rfl ?_
                      refine n_aload_n O dX6_passesBy_135 rfl ?_
                      refine m_get_tt O hM fl_X6_37 dX6_passesBy_136 ?_
                      refine n_iload O dX6_passesBy_139 rfl ?_
                      refine m_ld_tt O hM (by omega) (by omega) dX6_passesBy_141 ?_
                      refine m_st_ss O hM (by omega) (by omega) dX6_passesBy_142 ?_
                      refine n_iinc O dX6_passesBy_143 (by decide) rfl rfl ?_
                      refine r_goto (tgt := 122) O dX6_passesBy_146 (by decide) ?_
                      exact G_chk (ih122 _ (by omega) (i2 + 1) _ ⟨by omega, fun y h0 h1 => by by_cases e : y = i2; (rw [e, uI_s]); (rw [uI_n _ _ e]; exact hq5 y h0 (by omega))⟩ rfl) (zsc rfl (zsc rfl (zsc rfl (zsc rfl (zsc rfl zsn)))))
                exact G_chk (L122 _ 0 s1 ⟨by omega, fun y h0 h1 => by omega⟩ rfl) (zsc rfl (zsc rfl (zsc rfl (zsc rfl (zsc rfl zsn)))))
              · skip
                have hf4 : fd = -4 := by omega
                subst hf4
                have hrk := passJ_r hj
                have hr28 := hrk.2.1
                have hrb := (okV_roundsQ hv s k).2.1
                refine n_aload_n O dX6_passesBy_52 rfl ?_
                refine m_get_ss O hM fl_X6_22 dX6_passesBy_53 ?_
                refine r_bipush O (by decide +kernel) dX6_passesBy_56 ?_
                refine m_ld_ss O hM (by omega) (by omega) dX6_passesBy_58 ?_
                refine r_if_ne (tgt := 67) O ⟨by omega, by omega⟩ dX6_passesBy_59 (by decide) (fun hc59 => ?_) (fun hc59 => ?_)
                · skip
                  refine r_bipush O (by decide +kernel) dX6_passesBy_67 ?_
                  refine n_istore_n O dX6_passesBy_69 (by decide) rfl ?_
                  refine n_iload_n O dX6_passesBy_70 rfl ?_
                  refine r_bipush O (by decide +kernel) dX6_passesBy_71 ?_
                  refine r_icmp_ne (tgt := 81) O ⟨by omega, by omega⟩ ⟨by omega, by omega⟩ dX6_passesBy_73 (by decide) (fun hc73 => ?_) (fun hc73 => ?_)
                  · skip
                    exfalso; omega
                  · skip
                    refine r_bipush O (by decide +kernel) dX6_passesBy_76 ?_
                    refine r_goto (tgt := 95) O dX6_passesBy_78 (by decide) ?_
                    refine n_istore_n O dX6_passesBy_95 (by decide) rfl ?_
                    refine n_iload_n O dX6_passesBy_96 rfl ?_
                    refine r_bipush O (by decide +kernel) dX6_passesBy_97 ?_
                    refine r_icmp_ne (tgt := 108) O ⟨by omega, by omega⟩ ⟨by omega, by omega⟩ dX6_passesBy_99 (by decide) (fun hc99 => ?_) (fun hc99 => ?_)
                    · skip
                      exfalso; omega
                    · skip
                      refine n_aload_n O dX6_passesBy_102 rfl ?_
                      refine n_iload_n O dX6_passesBy_103 rfl ?_
                      refine r_callV1i O (C_X6_eats hI hM _ _ _ _ _ _ _ _ _ _ _ _ _ _ _ _ (roundsQ v s k) (okV_roundsQ hv s k) hrk s hs) q_X6_107 (by rw [hM]; decide) (fs := _) rfl rfl rfl (by decide) (by decide) (Nat.le_of_ble_eq_true rfl) dX6_passesBy_104 (fun zz104 zu104 hz104 => ?_)
                      obtain ⟨_, s4, hq4, rfl⟩ := hz104
                      refine r_pop O rfl dX6_passesBy_107 ?_
                      refine n_iinc O dX6_passesBy_108 (by decide) rfl rfl ?_
                      refine r_goto (tgt := 35) O dX6_passesBy_111 (by decide) ?_
                      exact G_chk (ih35 _ (by omega) (k + 1) _ _ _ _ (by first | exact ⟨passJ_n hj (by omega) hq4 rfl, by omega, ⟨by omega, by omega⟩⟩ | exact ⟨passJ_f hj (by omega) (by omega) rfl (by omega), by omega, ⟨by omega, by omega⟩⟩) rfl) (zsc rfl (zsc rfl (zsc rfl (zsc rfl (zsc rfl zsn)))))
                · skip
                  refine n_iload O dX6_passesBy_62 rfl ?_
                  refine r_goto (tgt := 69) O dX6_passesBy_64 (by decide) ?_
                  refine n_istore_n O dX6_passesBy_69 (by decide) rfl ?_
                  refine n_iload_n O dX6_passesBy_70 rfl ?_
                  refine r_bipush O (by decide +kernel) dX6_passesBy_71 ?_
                  refine r_icmp_ne (tgt := 81) O ⟨by omega, by omega⟩ ⟨by omega, by omega⟩ dX6_passesBy_73 (by decide) (fun hc73 => ?_) (fun hc73 => ?_)
                  · skip
                    refine n_iload O dX6_passesBy_81 rfl ?_
                    refine r_if_ne (tgt := 91) O ⟨by omega, by omega⟩ dX6_passesBy_83 (by decide) (fun hc83 => ?_) (fun hc83 => ?_)
                    · skip
                      refine n_aload_n O dX6_passesBy_91 rfl ?_
                      refine m_get_la O hM fl_X6_95 dX6_passesBy_92 ?_
                      refine n_istore_n O dX6_passesBy_95 (by decide) rfl ?_
                      refine n_iload_n O dX6_passesBy_96 rfl ?_
                      refine r_bipush O (by decide +kernel) dX6_passesBy_97 ?_
                      refine r_icmp_ne (tgt := 108) O ⟨by omega, by omega⟩ ⟨by omega, by omega⟩ dX6_passesBy_99 (by decide) (fun hc99 => ?_) (fun hc99 => ?_)
                      · skip
                        refine n_iinc O dX6_passesBy_108 (by decide) rfl rfl ?_
                        refine r_goto (tgt := 35) O dX6_passesBy_111 (by decide) ?_
                        exact G_chk (ih35 _ (by omega) (k + 1) _ _ _ _ (by first | exact ⟨passJ_n hj (by omega) hq4 rfl, by omega, ⟨by omega, by omega⟩⟩ | exact ⟨passJ_f hj (by omega) (by omega) rfl (by omega), by omega, ⟨by omega, by omega⟩⟩) rfl) (zsc rfl (zsc rfl (zsc rfl (zsc rfl (zsc rfl zsn)))))
                      · skip
                        exfalso; omega
                    · skip
                      refine r_bipush O (by decide +kernel) dX6_passesBy_86 ?_
                      refine r_goto (tgt := 95) O dX6_passesBy_88 (by decide) ?_
                      refine n_istore_n O dX6_passesBy_95 (by decide) rfl ?_
                      refine n_iload_n O dX6_passesBy_96 rfl ?_
                      refine r_bipush O (by decide +kernel) dX6_passesBy_97 ?_
                      refine r_icmp_ne (tgt := 108) O ⟨by omega, by omega⟩ ⟨by omega, by omega⟩ dX6_passesBy_99 (by decide) (fun hc99 => ?_) (fun hc99 => ?_)
                      · skip
                        refine n_iinc O dX6_passesBy_108 (by decide) rfl rfl ?_
                        refine r_goto (tgt := 35) O dX6_passesBy_111 (by decide) ?_
                        exact G_chk (ih35 _ (by omega) (k + 1) _ _ _ _ (by first | exact ⟨passJ_n hj (by omega) hq4 rfl, by omega, ⟨by omega, by omega⟩⟩ | exact ⟨passJ_f hj (by omega) (by omega) rfl (by omega), by omega, ⟨by omega, by omega⟩⟩) rfl) (zsc rfl (zsc rfl (zsc rfl (zsc rfl (zsc rfl zsn)))))
                      · skip
                        exfalso; omega
                  · skip
                    exfalso; omega
        exact G_chk (L35 _ 0 ss la (-4) (-4) ⟨Or.inl ⟨rfl, rfl, hr, fun m hm => by omega, fun q hq2 => by omega⟩, by omega, ⟨by omega, by omega⟩⟩ rfl) (zsc rfl (zsc rfl (zsc rfl (zsc rfl (zsc rfl zsn)))))
      · skip
        refine n_aload_n O dX6_passesBy_8 rfl ?_
        refine m_get_tt O hM fl_X6_37 dX6_passesBy_9 ?_
        refine n_iload_n O dX6_passesBy_12 rfl ?_
        refine n_aload_n O dX6_passesBy_13 rfl ?_
        refine m_get_ss O hM fl_X6_22 dX6_passesBy_14 ?_
        refine n_iload_n O dX6_passesBy_17 rfl ?_
        refine m_ld_ss O hM (by omega) (by omega) dX6_passesBy_18 ?_
        refine m_st_tt O hM hI (by omega) (by omega) dX6_passesBy_19 ?_
        refine n_iinc O dX6_passesBy_20 (by decide) rfl rfl ?_
        refine r_goto (tgt := 2) O dX6_passesBy_23 (by decide) ?_
        exact G_chk (ih2 _ (by omega) (i + 1) _ ⟨by omega, fun y h0 h1 => by by_cases e : y = i; (rw [e, uI_s]); (rw [uI_n _ _ e]; exact hq y h0 (by omega))⟩ rfl) (zsc rfl (zsc rfl (zsc rfl zsn)))
  exact G_chk (L2 _ 0 tt ⟨by omega, fun y h0 h1 => by omega⟩ rfl) (zsc rfl (zsc rfl (zsc rfl zsn)))
