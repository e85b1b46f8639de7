set_option maxHeartbeats 4000000 in
theorem C_X6_letterAt {K : zK} (hI : zInj K) (hM : kN K = 11) (tx : Int → Int) (ty : Int) (td dr bg ss pa : Int → Int) (kn : Int) (im : Int → Int) (kp : Int) (ns : Int → Int) (nd ap la : Int) (hh tt : Int → Int) (ht : okT tx ty) (p : Int) (hp : 0 ≤ p ∧ p ≤ 1000) : zCi K yX6_letterAt cX6_letterAt 2 (some .int) 0 [.ref (kad K 0), .int (iI p)] (layM K tx ty td dr bg ss pa kn im kp ns nd ap la hh tt) (fun z u => z = ltM tx ty p ∧ u = (layM K tx ty td dr bg ss pa kn im kp ns nd ap la hh tt)) := by
  have hty := ht.1
  refine zCi_in hI (by decide +kernel) (Nat.le_of_ble_eq_true rfl) (fun X O hE => ?_)
  refine n_iload_n O dX6_letterAt_0 rfl ?_
  refine n_aload_n O dX6_letterAt_1 rfl ?_
  refine m_get_ty O hM fl_X6_54 dX6_letterAt_2 ?_
  refine r_icmp_ge (tgt := 17) O ⟨by omega, by omega⟩ ⟨by omega, by omega⟩ dX6_letterAt_5 (by decide) (fun hc5 => ?_) (fun hc5 => ?_)
  · skip
    refine r_iconst O dX6_letterAt_17 ?_
    exact hE _ _ _ _ dX6_letterAt_18 rfl ⟨by unfold ltM; first | rw [if_pos (by omega)] | rw [if_neg (by omega)], rfl⟩
  · skip
    refine n_aload_n O dX6_letterAt_8 rfl ?_
    refine m_get_tx O hM fl_X6_7 dX6_letterAt_9 ?_
    refine n_iload_n O dX6_letterAt_12 rfl ?_
    refine m_ld_tx O hM (by omega) (by omega) dX6_letterAt_13 ?_
    refine r_goto (tgt := 18) O dX6_letterAt_14 (by decide) ?_
    exact hE _ _ _ _ dX6_letterAt_18 rfl ⟨by unfold ltM; first | rw [if_pos (by omega)] | rw [if_neg (by omega)], rfl⟩
set_option maxHeartbeats 4000000 in
theorem C_X6_number {K : zK} (hI : zInj K) (hM : kN K = 11) (tx : Int → Int) (ty : Int) (td dr bg ss pa : Int → Int) (kn : Int) (im : Int → Int) (kp : Int) (ns : Int → Int) (nd ap la : Int) (hh tt : Int → Int) (ht : okT tx ty) (hap : 0 ≤ ap ∧ ap ≤ 300) (lo hi e : Int) (hlo : 0 ≤ lo ∧ lo ≤ 99) (hhi : 0 ≤ hi ∧ hi ≤ 99) (he : e = 44 ∨ e = 59) : zCi K yX6_number cX6_number 6 (some .int) 2 [.ref (kad K 0), .int (iI lo), .int (iI hi), .int (iI e)] (layM K tx ty td dr bg ss pa kn im kp ns nd ap la hh tt) (fun z u => (numP tx ty ap lo hi e ∧ z = valT tx ty ap ∧ u = (layM K tx ty td dr bg ss pa kn im kp ns nd (ap + figsT tx ty ap + 1) la hh tt)) ∨ (¬ numP tx ty ap lo hi e ∧ z = -1 ∧ ∃ a2 : Int, (0 ≤ a2 ∧ a2 ≤ ap + 3) ∧ u = (layM K tx ty td dr bg ss pa kn im kp ns nd a2 la hh tt))) := by
  have hfc := figsT_c tx ty ap
  have hf1 := figI_c tx ty ap
  have hf2 := figI_c tx ty (ap + 1)
  have hvt : valT tx ty ap = if figsT tx ty ap = 1 then atT tx ty ap - 48 else 10 * (atT tx ty ap - 48) + (atT tx ty (ap + 1) - 48) := rfl
  refine zCi_in hI (by decide +kernel) (Nat.le_of_ble_eq_true rfl) (fun X O hE => ?_)
  refine n_aload_n O dX6_number_0 rfl ?_
  refine n_aload_n O dX6_number_1 rfl ?_
  refine m_get_ap O hM fl_X6_58 dX6_number_2 ?_
  refine r_callV1i O (C_X6_letterAt hI hM _ _ _ _ _ _ _ _ _ _ _ _ _ _ _ _ ht _ ⟨by omega, by omega⟩) q_X6_61 (by rw [hM]; decide) (fs := _) rfl rfl rfl (by decide) (by decide) (Nat.le_of_ble_eq_true rfl) dX6_number_5 (fun zz5 zu5 hz5 => ?_)
  obtain ⟨rfl, rfl⟩ := hz5
  have hlt1 := ltM_c ht (p := ap) (by omega)
  refine r_callS1i O (C_X6_isFigure hI _ _ ⟨by omega, by omega⟩) q_X6_65 (by decide) (by decide) (Nat.le_of_ble_eq_true rfl) dX6_number_8 (fun zz8 zu8 hz8 => ?_)
  obtain ⟨hzf1, rfl⟩ := hz8
  have hfi1 := inI_c hzf1
  refine r_if_ne (tgt := 16) O ⟨by omega, by omega⟩ dX6_number_11 (by decide) (fun hc11 => ?_) (fun hc11 => ?_)
  · skip
    refine n_aload_n O dX6_number_16 rfl ?_
    refine n_aload_n O dX6_number_17 rfl ?_
    refine m_get_ap O hM fl_X6_58 dX6_number_18 ?_
    refine r_callV1i O (C_X6_letterAt hI hM _ _ _ _ _ _ _ _ _ _ _ _ _ _ _ _ ht _ ⟨by omega, by omega⟩) q_X6_61 (by rw [hM]; decide) (fs := _) rfl rfl rfl (by decide) (by decide) (Nat.le_of_ble_eq_true rfl) dX6_number_21 (fun zz21 zu21 hz21 => ?_)
    obtain ⟨rfl, rfl⟩ := hz21
    have hlt2 := ltM_c ht (p := ap) (by omega)
    refine r_bipush O (by decide +kernel) dX6_number_24 ?_
    refine r_isub O dX6_number_26 ?_
    refine n_istore O dX6_number_27 (by decide) rfl ?_
    refine n_aload_n O dX6_number_29 rfl ?_
    refine r_dup O rfl dX6_number_30 ?_
    refine m_get_ap O hM fl_X6_58 dX6_number_31 ?_
    refine r_iconst O dX6_number_34 ?_
    refine r_iadd O dX6_number_35 ?_
    refine m_put_ap O hM fl_X6_58 dX6_number_36 ?_
    refine n_aload_n O dX6_number_39 rfl ?_
    refine n_aload_n O dX6_number_40 rfl ?_
    refine m_get_ap O hM fl_X6_58 dX6_number_41 ?_
    refine r_callV1i O (C_X6_letterAt hI hM _ _ _ _ _ _ _ _ _ _ _ _ _ _ _ _ ht _ ⟨by omega, by omega⟩) q_X6_61 (by rw [hM]; decide) (fs := _) rfl rfl rfl (by decide) (by decide) (Nat.le_of_ble_eq_true rfl) dX6_number_44 (fun zz44 zu44 hz44 => ?_)
    obtain ⟨rfl, rfl⟩ := hz44
    have hlt3 := ltM_c ht (p := ap + 1) (by omega)
    refine r_callS1i O (C_X6_isFigure hI _ _ ⟨by omega, by omega⟩) q_X6_65 (by decide) (by decide) (Nat.le_of_ble_eq_true rfl) dX6_number_47 (fun zz47 zu47 hz47 => ?_)
    obtain ⟨hzf3, rfl⟩ := hz47
    have hfi3 := inI_c hzf3
    refine r_if_eq (tgt := 82) O ⟨by omega, by omega⟩ dX6_number_50 (by decide) (fun hc50 => ?_) (fun hc50 => ?_)
    · skip
      refine n_aload_n O dX6_number_82 rfl ?_
      refine n_aload_n O dX6_number_83 rfl ?_
      refine m_get_ap O hM fl_X6_58 dX6_number_84 ?_
      refine r_callV1i O (C_X6_letterAt hI hM _ _ _ _ _ _ _ _ _ _ _ _ _ _ _ _ ht _ ⟨by omega, by omega⟩) q_X6_61 (by rw [hM]; decide) (fs := _) rfl rfl rfl (by decide) (by decide) (Nat.le_of_ble_eq_true rfl) dX6_number_87 (fun zz87 zu87 hz87 => ?_)
      obtain ⟨rfl, rfl⟩ := hz87
      have hlt5 := ltM_c ht (p := ap + 1) (by omega)
      have hlt6 := ltM_c ht (p := ap + 1 + 1) (by omega)
      refine n_iload_n O dX6_number_90 rfl ?_
      refine r_icmp_ne (tgt := 108) O ⟨by omega, by omega⟩ ⟨by omega, by omega⟩ dX6_number_91 (by decide) (fun hc91 => ?_) (fun hc91 => ?_)
      · skip
        refine r_iconst O dX6_number_108 ?_
        refine n_istore O dX6_number_109 (by decide) rfl ?_
        refine n_aload_n O dX6_number_111 rfl ?_
        refine r_dup O rfl dX6_number_112 ?_
        refine m_get_ap O hM fl_X6_58 dX6_number_113 ?_
        refine r_iconst O dX6_number_116 ?_
        refine r_iadd O dX6_number_117 ?_
        refine m_put_ap O hM fl_X6_58 dX6_number_118 ?_
        refine n_iload O dX6_number_121 rfl ?_
        refine r_if_eq (tgt := 131) O ⟨by omega, by omega⟩ dX6_number_123 (by decide) (fun hc123 => ?_) (fun hc123 => ?_)
        · skip
          refine r_iconst O dX6_number_131 ?_
          exact hE _ _ _ _ dX6_number_132 rfl (by first | (exfalso; omega) | (exact Or.inr ⟨by rintro ⟨q1, q2, q3, q4⟩; rcases hfc with h | h | h; omega; (rw [h.1] at q2; rw [if_pos h.1] at hvt; omega); (rw [h.1] at q2; rw [if_neg (by omega)] at hvt; (have e9 : ap + 2 = ap + 1 + 1 := by omega); rw [e9] at q2; omega), rfl, _, ⟨by omega, by omega⟩, rfl⟩) | (exact Or.inl ⟨by rcases hfc with h | h | h; (exfalso; omega); (refine ⟨by omega, by rw [h.1]; omega, ?_, ?_⟩ <;> (rw [if_pos h.1] at hvt; omega)); (refine ⟨by omega, by rw [h.1]; (have e9 : ap + 2 = ap + 1 + 1 := by omega); rw [e9]; omega, ?_, ?_⟩ <;> (rw [if_neg (by omega)] at hvt; omega)), by rcases hfc with h | h | h; (exfalso; omega); (rw [if_pos h.1] at hvt; omega); (rw [if_neg (by omega)] at hvt; omega), by rcases hfc with h | h | h; (exfalso; omega); (first | (rw [h.1]; done) | (rw [h.1]; exfalso; omega)); (first | (rw [h.1]; done) | (rw [h.1]; (have e9 : ap + 2 = ap + 1 + 1 := by omega); rw [e9]; done) | (exfalso; omega))⟩))
        · skip
          refine n_iload O dX6_number_126 rfl ?_
          refine r_goto (tgt := 132) O dX6_number_128 (by decide) ?_
          exact hE _ _ _ _ dX6_number_132 rfl (by first | (exfalso; omega) | (exact Or.inr ⟨by rintro ⟨q1, q2, q3, q4⟩; rcases hfc with h | h | h; omega; (rw [h.1] at q2; rw [if_pos h.1] at hvt; omega); (rw [h.1] at q2; rw [if_neg (by omega)] at hvt; (have e9 : ap + 2 = ap + 1 + 1 := by omega); rw [e9] at q2; omega), rfl, _, ⟨by omega, by omega⟩, rfl⟩) | (exact Or.inl ⟨by rcases hfc with h | h | h; (exfalso; omega); (refine ⟨by omega, by rw [h.1]; omega, ?_, ?_⟩ <;> (rw [if_pos h.1] at hvt; omega)); (refine ⟨by omega, by rw [h.1]; (have e9 : ap + 2 = ap + 1 + 1 := by omega); rw [e9]; omega, ?_, ?_⟩ <;> (rw [if_neg (by omega)] at hvt; omega)), by rcases hfc with h | h | h; (exfalso; omega); (rw [if_pos h.1] at hvt; omega); (rw [if_neg (by omega)] at hvt; omega), by rcases hfc with h | h | h; (exfalso; omega); (first | (rw [h.1]; done) | (rw [h.1]; exfalso; omega)); (first | (rw [h.1]; done) | (rw [h.1]; (have e9 : ap + 2 = ap + 1 + 1 := by omega); rw [e9]; done) | (exfalso; omega))⟩))
      · skip
        refine n_iload O dX6_number_94 rfl ?_
        refine n_iload_n O dX6_number_96 rfl ?_
        refine n_iload_n O dX6_number_97 rfl ?_
        refine r_callS3i O (C_X6_in hI _ _ _ _ ⟨by omega, by omega⟩ ⟨by omega, by omega⟩ ⟨by omega, by omega⟩) q_X6_50 (by decide) (by decide) (Nat.le_of_ble_eq_true rfl) dX6_number_98 (fun zz98 zu98 hz98 => ?_)
        obtain ⟨hzi98, rfl⟩ := hz98
        have hic98 := inI_c hzi98
        refine r_if_eq (tgt := 108) O ⟨by omega, by omega⟩ dX6_number_101 (by decide) (fun hc101 => ?_) (fun hc101 => ?_)
        · skip
          refine r_iconst O dX6_number_108 ?_
          refine n_istore O dX6_number_109 (by decide) rfl ?_
          refine n_aload_n O dX6_number_111 rfl ?_
          refine r_dup O rfl dX6_number_112 ?_
          refine m_get_ap O hM fl_X6_58 dX6_number_113 ?_
          refine r_iconst O dX6_number_116 ?_
          refine r_iadd O dX6_number_117 ?_
          refine m_put_ap O hM fl_X6_58 dX6_number_118 ?_
          refine n_iload O dX6_number_121 rfl ?_
          refine r_if_eq (tgt := 131) O ⟨by omega, by omega⟩ dX6_number_123 (by decide) (fun hc123 => ?_) (fun hc123 => ?_)
          · skip
            refine r_iconst O dX6_number_131 ?_
            exact hE _ _ _ _ dX6_number_132 rfl (by first | (exfalso; omega) | (exact Or.inr ⟨by rintro ⟨q1, q2, q3, q4⟩; rcases hfc with h | h | h; omega; (rw [h.1] at q2; rw [if_pos h.1] at hvt; omega); (rw [h.1] at q2; rw [if_neg (by omega)] at hvt; (have e9 : ap + 2 = ap + 1 + 1 := by omega); rw [e9] at q2; omega), rfl, _, ⟨by omega, by omega⟩, rfl⟩) | (exact Or.inl ⟨by rcases hfc with h | h | h; (exfalso; omega); (refine ⟨by omega, by rw [h.1]; omega, ?_, ?_⟩ <;> (rw [if_pos h.1] at hvt; omega)); (refine ⟨by omega, by rw [h.1]; (have e9 : ap + 2 = ap + 1 + 1 := by omega); rw [e9]; omega, ?_, ?_⟩ <;> (rw [if_neg (by omega)] at hvt; omega)), by rcases hfc with h | h | h; (exfalso; omega); (rw [if_pos h.1] at hvt; omega); (rw [if_neg (by omega)] at hvt; omega), by rcases hfc with h | h | h; (exfalso; omega); (first | (rw [h.1]; done) | (rw [h.1]; exfalso; omega)); (first | (rw [h.1]; done) | (rw [h.1]; (have e9 : ap + 2 = ap + 1 + 1 := by omega); rw [e9]; done) | (exfalso; omega))⟩))
          · skip
            refine n_iload O dX6_number_126 rfl ?_
            refine r_goto (tgt := 132) O dX6_number_128 (by decide) ?_
            exact hE _ _ _ _ dX6_number_132 rfl (by first | (exfalso; omega) | (exact Or.inr ⟨by rintro ⟨q1, q2, q3, q4⟩; rcases hfc with h | h | h; omega; (rw [h.1] at q2; rw [if_pos h.1] at hvt; omega); (rw [h.1] at q2; rw [if_neg (by omega)] at hvt; (have e9 : ap + 2 = ap + 1 + 1 := by omega); rw [e9] at q2; omega), rfl, _, ⟨by omega, by omega⟩, rfl⟩) | (exact Or.inl ⟨by rcases hfc with h | h | h; (exfalso; omega); (refine ⟨by omega, by rw [h.1]; omega, ?_, ?_⟩ <;> (rw [if_pos h.1] at hvt; omega)); (refine ⟨by omega, by rw [h.1]; (have e9 : ap + 2 = ap + 1 + 1 := by omega); rw [e9]; omega, ?_, ?_⟩ <;> (rw [if_neg (by omega)] at hvt; omega)), by rcases hfc with h | h | h; (exfalso; omega); (rw [if_pos h.1] at hvt; omega); (rw [if_neg (by omega)] at hvt; omega), by rcases hfc with h | h | h; (exfalso; omega); (first | (rw [h.1]; done) | (rw [h.1]; exfalso; omega)); (first | (rw [h.1]; done) | (rw [h.1]; (have e9 : ap + 2 = ap + 1 + 1 := by omega); rw [e9]; done) | (exfalso; omega))⟩))
        · skip
          refine r_iconst O dX6_number_104 ?_
          refine r_goto (tgt := 109) O dX6_number_105 (by decide) ?_
          refine n_istore O dX6_number_109 (by decide) rfl ?_
          refine n_aload_n O dX6_number_111 rfl ?_
          refine r_dup O rfl dX6_number_112 ?_
          refine m_get_ap O hM fl_X6_58 dX6_number_113 ?_
          refine r_iconst O dX6_number_116 ?_
          refine r_iadd O dX6_number_117 ?_
          refine m_put_ap O hM fl_X6_58 dX6_number_118 ?_
          refine n_iload O dX6_number_121 rfl ?_
          refine r_if_eq (tgt := 131) O ⟨by omega, by omega⟩ dX6_number_123 (by decide) (fun hc123 => ?_) (fun hc123 => ?_)
          · skip
            refine r_iconst O dX6_number_131 ?_
            exact hE _ _ _ _ dX6_number_132 rfl (by first | (exfalso; omega) | (exact Or.inr ⟨by rintro ⟨q1, q2, q3, q4⟩; rcases hfc with h | h | h; omega; (rw [h.1] at q2; rw [if_pos h.1] at hvt; omega); (rw [h.1] at q2; rw [if_neg (by omega)] at hvt; (have e9 : ap + 2 = ap + 1 + 1 := by omega); rw [e9] at q2; omega), rfl, _, ⟨by omega, by omega⟩, rfl⟩) | (exact Or.inl ⟨by rcases hfc with h | h | h; (exfalso; omega); (refine ⟨by omega, by rw [h.1]; omega, ?_, ?_⟩ <;> (rw [if_pos h.1] at hvt; omega)); (refine ⟨by omega, by rw [h.1]; (have e9 : ap + 2 = ap + 1 + 1 := by omega); rw [e9]; omega, ?_, ?_⟩ <;> (rw [if_neg (by omega)] at hvt; omega)), by rcases hfc with h | h | h; (exfalso; omega); (rw [if_pos h.1] at hvt; omega); (rw [if_neg (by omega)] at hvt; omega), by rcases hfc with h | h | h; (exfalso; omega); (first | (rw [h.1]; done) | (rw [h.1]; exfalso; omega)); (first | (rw [h.1]; done) | (rw [h.1]; (have e9 : ap + 2 = ap + 1 + 1 := by omega); rw [e9]; done) | (exfalso; omega))⟩))
          · skip
            refine n_iload O dX6_number_126 rfl ?_
            refine r_goto (tgt := 132) O dX6_number_128 (by decide) ?_
            exact hE _ _ _ _ dX6_number_132 rfl (by first | (exfalso; omega) | (exact Or.inr ⟨by rintro ⟨q1, q2, q3, q4⟩; rcases hfc with h | h | h; omega; (rw [h.1] at q2; rw [if_pos h.1] at hvt; omega); (rw [h.1] at q2; rw [if_neg (by omega)] at hvt; (have e9 : ap + 2 = ap + 1 + 1 := by omega); rw [e9] at q2; omega), rfl, _, ⟨by omega, by omega⟩, rfl⟩) | (exact Or.inl ⟨by rcases hfc with h | h | h; (exfalso; omega); (refine ⟨by omega, by rw [h.1]; omega, ?_, ?_⟩ <;> (rw [if_pos h.1] at hvt; omega)); (refine ⟨by omega, by rw [h.1]; (have e9 : ap + 2 = ap + 1 + 1 := by omega); rw [e9]; omega, ?_, ?_⟩ <;> (rw [if_neg (by omega)] at hvt; omega)), by rcases hfc with h | h | h; (exfalso; omega); (rw [if_pos h.1] at hvt; omega); (rw [if_neg (by omega)] at hvt; omega), by rcases hfc with h | h | h; (exfalso; omega); (first | (rw [h.1]; done) | (rw [h.1]; exfalso; omega)); (first | (rw [h.1]; done) | (rw [h.1]; (have e9 : ap + 2 = ap + 1 + 1 := by omega); rw [e9]; done) | (exfalso; omega))⟩))
    · skip
      refine r_bipush O (by decide +kernel) dX6_number_53 ?_
      refine n_iload O dX6_number_55 rfl ?_
      refine r_imul O dX6_number_57 ?_
      refine n_aload_n O dX6_number_58 rfl ?_
      refine n_aload_n O dX6_number_59 rfl ?_
      refine m_get_ap O hM fl_X6_58 dX6_number_60 ?_
      refine r_callV1i O (C_X6_letterAt hI hM _ _ _ _ _ _ _ _ _ _ _ _ _ _ _ _ ht _ ⟨by omega, by omega⟩) q_X6_61 (by rw [hM]; decide) (fs := _) rfl rfl rfl (by decide) (by decide) (Nat.le_of_ble_eq_true rfl) dX6_number_63 (fun zz63 zu63 hz63 => ?_)
      obtain ⟨rfl, rfl⟩ := hz63
      have hlt4 := ltM_c ht (p := ap + 1) (by omega)
      refine r_iadd O dX6_number_66 ?_
      refine r_bipush O (by decide +kernel) dX6_number_67 ?_
      refine r_isub O dX6_number_69 ?_
      refine n_istore O dX6_number_70 (by decide) rfl ?_
      refine n_aload_n O dX6_number_72 rfl ?_
      refine r_dup O rfl dX6_number_73 ?_
      refine m_get_ap O hM fl_X6_58 dX6_number_74 ?_
      refine r_iconst O dX6_number_77 ?_
      refine r_iadd O dX6_number_78 ?_
      refine m_put_ap O hM fl_X6_58 dX6_number_79 ?_
      refine n_aload_n O dX6_number_82 rfl ?_
      refine n_aload_n O dX6_number_83 rfl ?_
      refine m_get_ap O hM fl_X6_58 dX6_number_84 ?_
      refine r_callV1i O (C_X6_letterAt hI hM _ _ _ _ _ _ _ _ _ _ _ _ _ _ _ _ ht _ ⟨by omega, by omega⟩) q_X6_61 (by rw [hM]; decide) (fs := _) rfl rfl rfl (by decide) (by decide) (Nat.le_of_ble_eq_true rfl) dX6_number_87 (fun zz87 zu87 hz87 => ?_)
      obtain ⟨rfl, rfl⟩ := hz87
      have hlt5 := ltM_c ht (p := ap + 1) (by omega)
      have hlt6 := ltM_c ht (p := ap + 1 + 1) (by omega)
      refine n_iload_n O dX6_number_90 rfl ?_
      refine r_icmp_ne (tgt := 108) O ⟨by omega, by omega⟩ ⟨by omega, by omega⟩ dX6_number_91 (by decide) (fun hc91 => ?_) (fun hc91 => ?_)
      · skip
        refine r_iconst O dX6_number_108 ?_
        refine n_istore O dX6_number_109 (by decide) rfl ?_
        refine n_aload_n O dX6_number_111 rfl ?_
        refine r_dup O rfl dX6_number_112 ?_
        refine m_get_ap O hM fl_X6_58 dX6_number_113 ?_
        refine r_iconst O dX6_number_116 ?_
        refine r_iadd O dX6_number_117 ?_
        refine m_put_ap O hM fl_X6_58 dX6_number_118 ?_
        refine n_iload O dX6_number_121 rfl ?_
        refine r_if_eq (tgt := 131) O ⟨by omega, by omega⟩ dX6_number_123 (by decide) (fun hc123 => ?_) (fun hc123 => ?_)
        · skip
          refine r_iconst O dX6_number_131 ?_
          exact hE _ _ _ _ dX6_number_132 rfl (by first | (exfalso; omega) | (exact Or.inr ⟨by rintro ⟨q1, q2, q3, q4⟩; rcases hfc with h | h | h; omega; (rw [h.1] at q2; rw [if_pos h.1] at hvt; omega); (rw [h.1] at q2; rw [if_neg (by omega)] at hvt; (have e9 : ap + 2 = ap + 1 + 1 := by omega); rw [e9] at q2; omega), rfl, _, ⟨by omega, by omega⟩, rfl⟩) | (exact Or.inl ⟨by rcases hfc with h | h | h; (exfalso; omega); (refine ⟨by omega, by rw [h.1]; omega, ?_, ?_⟩ <;> (rw [if_pos h.1] at hvt; omega)); (refine ⟨by omega, by rw [h.1]; (have e9 : ap + 2 = ap + 1 + 1 := by omega); rw [e9]; omega, ?_, ?_⟩ <;> (rw [if_neg (by omega)] at hvt; omega)), by rcases hfc with h | h | h; (exfalso; omega); (rw [if_pos h.1] at hvt; omega); (rw [if_neg (by omega)] at hvt; omega), by rcases hfc with h | h | h; (exfalso; omega); (first | (rw [h.1]; done) | (rw [h.1]; exfalso; omega)); (first | (rw [h.1]; done) | (rw [h.1]; (have e9 : ap + 2 = ap + 1 + 1 := by omega); rw [e9]; done) | (exfalso; omega))⟩))
        · skip
          refine n_iload O dX6_number_126 rfl ?_
          refine r_goto (tgt := 132) O dX6_number_128 (by decide) ?_
          exact hE _ _ _ _ dX6_number_132 rfl (by first | (exfalso; omega) | (exact Or.inr ⟨by rintro ⟨q1, q2, q3, q4⟩; rcases hfc with h | h | h; omega; (rw [h.1] at q2; rw [if_pos h.1] at hvt; omega); (rw [h.1] at q2; rw [if_neg (by omega)] at hvt; (have e9 : ap + 2 = ap + 1 + 1 := by omega); rw [e9] at q2; omega), rfl, _, ⟨by omega, by omega⟩, rfl⟩) | (exact Or.inl ⟨by rcases hfc with h | h | h; (exfalso; omega); (refine ⟨by omega, by rw [h.1]; omega, ?_, ?_⟩ <;> (rw [if_pos h.1] at hvt; omega)); (refine ⟨by omega, by rw [h.1]; (have e9 : ap + 2 = ap + 1 + 1 := by omega); rw [e9]; omega, ?_, ?_⟩ <;> (rw [if_neg (by omega)] at hvt; omega)), by rcases hfc with h | h | h; (exfalso; omega); (rw [if_pos h.1] at hvt; omega); (rw [if_neg (by omega)] at hvt; omega), by rcases hfc with h | h | h; (exfalso; omega); (first | (rw [h.1]; done) | (rw [h.1]; exfalso; omega)); (first | (rw [h.1]; done) | (rw [h.1]; (have e9 : ap + 2 = ap + 1 + 1 := by omega); rw [e9]; done) | (exfalso; omega))⟩))
      · skip
        refine n_iload O dX6_number_94 rfl ?_
        refine n_iload_n O dX6_number_96 rfl ?_
        refine n_iload_n O dX6_number_97 rfl ?_
        refine r_callS3i O (C_X6_in hI _ _ _ _ ⟨by omega, by omega⟩ ⟨by omega, by omega⟩ ⟨by omega, by omega⟩) q_X6_50 (by decide) (by decide) (Nat.le_of_ble_eq_true rfl) dX6_number_98 (fun zz98 zu98 hz98 => ?_)
        obtain ⟨hzi98, rfl⟩ := hz98
        have hic98 := inI_c hzi98
        refine r_if_eq (tgt := 108) O ⟨by omega, by omega⟩ dX6_number_101 (by decide) (fun hc101 => ?_) (fun hc101 => ?_)
        · skip
          refine r_iconst O dX6_number_108 ?_
          refine n_istore O dX6_number_109 (by decide) rfl ?_
          refine n_aload_n O dX6_number_111 rfl ?_
          refine r_dup O rfl dX6_number_112 ?_
          refine m_get_ap O hM fl_X6_58 dX6_number_113 ?_
          refine r_iconst O dX6_number_116 ?_
          refine r_iadd O dX6_number_117 ?_
          refine m_put_ap O hM fl_X6_58 dX6_number_118 ?_
          refine n_iload O dX6_number_121 rfl ?_
          refine r_if_eq (tgt := 131) O ⟨by omega, by omega⟩ dX6_number_123 (by decide) (fun hc123 => ?_) (fun hc123 => ?_)
          · skip
            refine r_iconst O dX6_number_131 ?_
            exact hE _ _ _ _ dX6_number_132 rfl (by first | (exfalso; omega) | (exact Or.inr ⟨by rintro ⟨q1, q2, q3, q4⟩; rcases hfc with h | h | h; omega; (rw [h.1] at q2; rw [if_pos h.1] at hvt; omega); (rw [h.1] at q2; rw [if_neg (by omega)] at hvt; (have e9 : ap + 2 = ap + 1 + 1 := by omega); rw [e9] at q2; omega), rfl, _, ⟨by omega, by omega⟩, rfl⟩) | (exact Or.inl ⟨by rcases hfc with h | h | h; (exfalso; omega); (refine ⟨by omega, by rw [h.1]; omega, ?_, ?_⟩ <;> (rw [if_pos h.1] at hvt; omega)); (refine ⟨by omega, by rw [h.1]; (have e9 : ap + 2 = ap + 1 + 1 := by omega); rw [e9]; omega, ?_, ?_⟩ <;> (rw [if_neg (by omega)] at hvt; omega)), by rcases hfc with h | h | h; (exfalso; omega); (rw [if_pos h.1] at hvt; omega); (rw [if_neg (by omega)] at hvt; omega), by rcases hfc with h | h | h; (exfalso; omega); (first | (rw [h.1]; done) | (rw [h.1]; exfalso; omega)); (first | (rw [h.1]; done) | (rw [h.1]; (have e9 : ap + 2 = ap + 1 + 1 := by omega); rw [e9]; done) | (exfalso; omega))⟩))
          · skip
            refine n_iload O dX6_number_126 rfl ?_
            refine r_goto (tgt := 132) O dX6_number_128 (by decide) ?_
            exact hE _ _ _ _ dX6_number_132 rfl (by first | (exfalso; omega) | (exact Or.inr ⟨by rintro ⟨q1, q2, q3, q4⟩; rcases hfc with h | h | h; omega; (rw [h.1] at q2; rw [if_pos h.1] at hvt; omega); (rw [h.1] at q2; rw [if_neg (by omega)] at hvt; (have e9 : ap + 2 = ap + 1 + 1 := by omega); rw [e9] at q2; omega), rfl, _, ⟨by omega, by omega⟩, rfl⟩) | (exact Or.inl ⟨by rcases hfc with h | h | h; (exfalso; omega); (refine ⟨by omega, by rw [h.1]; omega, ?_, ?_⟩ <;> (rw [if_pos h.1] at hvt; omega)); (refine ⟨by omega, by rw [h.1]; (have e9 : ap + 2 = ap + 1 + 1 := by omega); rw [e9]; omega, ?_, ?_⟩ <;> (rw [if_neg (by omega)] at hvt; omega)), by rcases hfc with h | h | h; (exfalso; omega); (rw [if_pos h.1] at hvt; omega); (rw [if_neg (by omega)] at hvt; omega), by rcases hfc with h | h | h; (exfalso; omega); (first | (rw [h.1]; done) | (rw [h.1]; exfalso; omega)); (first | (rw [h.1]; done) | (rw [h.1]; (have e9 : ap + 2 = ap + 1 + 1 := by omega); rw [e9]; done) | (exfalso; omega))⟩))
        · skip
          refine r_iconst O dX6_number_104 ?_
          refine r_goto (tgt := 109) O dX6_number_105 (by decide) ?_
          refine n_istore O dX6_number_109 (by decide) rfl ?_
          refine n_aload_n O dX6_number_111 rfl ?_
          refine r_dup O rfl dX6_number_112 ?_
          refine m_get_ap O hM fl_X6_58 dX6_number_113 ?_
          refine r_iconst O dX6_number_116 ?_
          refine r_iadd O dX6_number_117 ?_
          refine m_put_ap O hM fl_X6_58 dX6_number_118 ?_
          refine n_iload O dX6_number_121 rfl ?_
          refine r_if_eq (tgt := 131) O ⟨by omega, by omega⟩ dX6_number_123 (by decide) (fun hc123 => ?_) (fun hc123 => ?_)
          · skip
            refine r_iconst O dX6_number_131 ?_
            exact hE _ _ _ _ dX6_number_132 rfl (by first | (exfalso; omega) | (exact Or.inr ⟨by rintro ⟨q1, q2, q3, q4⟩; rcases hfc with h | h | h; omega; (rw [h.1] at q2; rw [if_pos h.1] at hvt; omega); (rw [h.1] at q2; rw [if_neg (by omega)] at hvt; (have e9 : ap + 2 = ap + 1 + 1 := by omega); rw [e9] at q2; omega), rfl, _, ⟨by omega, by omega⟩, rfl⟩) | (exact Or.inl ⟨by rcases hfc with h | h | h; (exfalso; omega); (refine ⟨by omega, by rw [h.1]; omega, ?_, ?_⟩ <;> (rw [if_pos h.1] at hvt; omega)); (refine ⟨by omega, by rw [h.1]; (have e9 : ap + 2 = ap + 1 + 1 := by omega); rw [e9]; omega, ?_, ?_⟩ <;> (rw [if_neg (by omega)] at hvt; omega)), by rcases hfc with h | h | h; (exfalso; omega); (rw [if_pos h.1] at hvt; omega); (rw [if_neg (by omega)] at hvt; omega), by rcases hfc with h | h | h; (exfalso; omega); (first | (rw [h.1]; done) | (rw [h.1]; exfalso; omega)); (first | (rw [h.1]; done) | (rw [h.1]; (have e9 : ap + 2 = ap + 1 + 1 := by omega); rw [e9]; done) | (exfalso; omega))⟩))
          · skip
            refine n_iload O dX6_number_126 rfl ?_
            refine r_goto (tgt := 132) O dX6_number_128 (by decide) ?_
            exact hE _ _ _ _ dX6_number_132 rfl (by first | (exfalso; omega) | (exact Or.inr ⟨by rintro ⟨q1, q2, q3, q4⟩; rcases hfc with h | h | h; omega; (rw [h.1] at q2; rw [if_pos h.1] at hvt; omega); (rw [h.1] at q2; rw [if_neg (by omega)] at hvt; (have e9 : ap + 2 = ap + 1 + 1 := by omega); rw [e9] at q2; omega), rfl, _, ⟨by omega, by omega⟩, rfl⟩) | (exact Or.inl ⟨by rcases hfc with h | h | h; (exfalso; omega); (refine ⟨by omega, by rw [h.1]; omega, ?_, ?_⟩ <;> (rw [if_pos h.1] at hvt; omega)); (refine ⟨by omega, by rw [h.1]; (have e9 : ap + 2 = ap + 1 + 1 := by omega); rw [e9]; omega, ?_, ?_⟩ <;> (rw [if_neg (by omega)] at hvt; omega)), by rcases hfc with h | h | h; (exfalso; omega); (rw [if_pos h.1] at hvt; omega); (rw [if_neg (by omega)] at hvt; omega), by rcases hfc with h | h | h; (exfalso; omega); (first | (rw [h.1]; done) | (rw [h.1]; exfalso; omega)); (first | (rw [h.1]; done) | (rw [h.1]; (have e9 : ap + 2 = ap + 1 + 1 := by omega); rw [e9]; done) | (exfalso; omega))⟩))
  · skip
    refine r_iconst O dX6_number_14 ?_
    exact hE _ _ _ _ dX6_number_15 rfl (Or.inr ⟨fun q => by have := q.1; omega, rfl, ap, by omega, rfl⟩)
set_option maxHeartbeats 4000000 in
theorem C_X6_begins {K : zK} (hI : zInj K) (hM : kN K = 11) (tx : Int → Int) (ty : Int) (td dr bg ss pa : Int → Int) (kn : Int) (im : Int → Int) (kp : Int) (ns : Int → Int) (nd ap la : Int) (hh tt : Int → Int)  : zCv K yX6_begins cX6_begins 2 0 [.ref (kad K 0)] (layM K tx ty td dr bg ss pa kn im kp ns nd ap la hh tt) (fun u => ∃ d2 b2 : Int → Int, (∀ w : SV, mR d2 b2 (clearV w)) ∧ zR b2 ∧ u = (layM K tx ty td d2 b2 ss pa kn im kp ns nd ap la hh tt)) := by
  refine zCv_in hI (by decide +kernel) (Nat.le_of_ble_eq_true rfl) (fun X O hE => ?_)
  refine r_iconst O dX6_begins_0 ?_
  refine n_istore_n O dX6_begins_1 (by decide) rfl ?_
  have L2 : ∀ (zk : Nat) (i : Int) (d1 : Int → Int), ((0 ≤ i ∧ i ≤ 10) ∧ ∀ y : Int, 0 ≤ y → y < i → d1 y = 0) → (10 - i).toNat = zk → G K X 2 2 [(0, .ref (kad K 0)), (1, .int (iI i))] [] (layM K tx ty td d1 bg ss pa kn im kp ns nd ap la hh tt) := by
    intro zk
    induction zk using Nat.strongRecOn with
    | ind zk ih2 =>
      intro i d1 hinv hk
      obtain ⟨hi, hq⟩ := hinv
      refine n_iload_n O dX6_begins_2 rfl ?_
      refine r_bipush O (by decide +kernel) dX6_begins_3 ?_
      refine r_icmp_ge (tgt := 21) O ⟨by omega, by omega⟩ ⟨by omega, by omega⟩ dX6_begins_5 (by decide) (fun hc5 => ?_) (fun hc5 => ?_)
      · skip
        refine r_iconst O dX6_begins_21 ?_
        refine n_istore_n O dX6_begins_22 (by decide) rfl ?_
        have L23 : ∀ (zk : Nat) (k : Int) (b1 : Int → Int), ((0 ≤ k ∧ k ≤ 31) ∧ ∀ y : Int, 0 ≤ y → y < k → b1 y = 0) → (31 - k).toNat = zk → G K X 2 23 [(0, .ref (kad K 0)), (1, .int (iI k))] [] (layM K tx ty td d1 b1 ss pa kn im kp ns nd ap la hh tt) := by
          intro zk
          induction zk using Nat.strongRecOn with
          | ind zk ih23 =>
            intro k b1 hinv hk
            obtain ⟨hk, hq2⟩ := hinv
            refine n_iload_n O dX6_begins_23 rfl ?_
            refine r_bipush O (by decide +kernel) dX6_begins_24 ?_
            refine r_icmp_ge (tgt := 42) O ⟨by omega, by omega⟩ ⟨by omega, by omega⟩ dX6_begins_26 (by decide) (fun hc26 => ?_) (fun hc26 => ?_)
            · skip
              refine n_aload_n O dX6_begins_42 rfl ?_
              refine m_get_dr O hM fl_X6_16 dX6_begins_43 ?_
              refine r_iconst O dX6_begins_46 ?_
              refine r_iconst O dX6_begins_47 ?_
              refine m_st_dr O hM (by omega) (by omega) dX6_begins_48 ?_
              refine n_aload_n O dX6_begins_49 rfl ?_
              refine m_get_dr O hM fl_X6_16 dX6_begins_50 ?_
              refine r_iconst O dX6_begins_53 ?_
              refine r_bipush O (by decide +kernel) dX6_begins_54 ?_
              refine m_st_dr O hM (by omega) (by omega) dX6_begins_56 ?_
              refine n_aload_n O dX6_begins_57 rfl ?_
              refine m_get_bg O hM fl_X6_19 dX6_begins_58 ?_
              refine r_bipush O (by decide +kernel) dX6_begins_61 ?_
              refine r_bipush O (by decide +kernel) dX6_begins_63 ?_
              refine m_st_bg O hM (by omega) (by omega) dX6_begins_65 ?_
              refine n_aload_n O dX6_begins_66 rfl ?_
              refine m_get_bg O hM fl_X6_19 dX6_begins_67 ?_
              refine r_bipush O (by decide +kernel) dX6_begins_70 ?_
              refine r_iconst O dX6_begins_72 ?_
              refine m_st_bg O hM (by omega) (by omega) dX6_begins_73 ?_
              refine n_aload_n O dX6_begins_74 rfl ?_
              refine m_get_bg O hM fl_X6_19 dX6_begins_75 ?_
              refine r_bipush O (by decide +kernel) dX6_begins_78 ?_
              refine r_iconst O dX6_begins_80 ?_
              refine m_st_bg O hM (by omega) (by omega) dX6_begins_81 ?_
              exact hE _ _ _ dX6_begins_82 ⟨_, _, fun w => mR_clear (by rw [uI_n _ _ (by omega), uI_n _ _ (by omega)]; exact hq 0 (by omega) (by omega)) (by rw [uI_n _ _ (by omega), uI_n _ _ (by omega), uI_s]) (by rw [uI_n _ _ (by omega), uI_s]) (by rw [uI_s]) (by rw [uI_n _ _ (by omega), uI_s]) (by rw [uI_s]) w, fun y h0 h1 => by rw [uI_n _ _ (by omega), uI_n _ _ (by omega), uI_n _ _ (by omega)]; exact hq2 _ (by omega) (by omega), rfl⟩
            · skip
              refine n_aload_n O dX6_begins_29 rfl ?_
              refine m_get_bg O hM fl_X6_19 dX6_begins_30 ?_
              refine n_iload_n O dX6_begins_33 rfl ?_
              refine r_iconst O dX6_begins_34 ?_
              refine m_st_bg O hM (by omega) (by omega) dX6_begins_35 ?_
              refine n_iinc O dX6_begins_36 (by decide) rfl rfl ?_
              refine r_goto (tgt := 23) O dX6_begins_39 (by decide) ?_
              exact G_chk (ih23 _ (by omega) (k + 1) _ ⟨by omega, fun y h0 h1 => by unfold uI; split; rfl; exact hq2 y h0 (by omega)⟩ rfl) (zsc rfl (zsc rfl zsn))
        exact G_chk (L23 _ 0 bg ⟨by omega, fun y h0 h1 => by omega⟩ rfl) (zsc rfl (zsc rfl zsn))
      · skip
        refine n_aload_n O dX6_begins_8 rfl ?_
        refine m_get_dr O hM fl_X6_16 dX6_begins_9 ?_
        refine n_iload_n O dX6_begins_12 rfl ?_
        refine r_iconst O dX6_begins_13 ?_
        refine m_st_dr O hM (by omega) (by omega) dX6_begins_14 ?_
        refine n_iinc O dX6_begins_15 (by decide) rfl rfl ?_
        refine r_goto (tgt := 2) O dX6_begins_18 (by decide) ?_
        exact G_chk (ih2 _ (by omega) (i + 1) _ ⟨by omega, fun y h0 h1 => by unfold uI; split; rfl; exact hq y h0 (by omega)⟩ rfl) (zsc rfl (zsc rfl zsn))
  exact G_chk (L2 _ 0 dr ⟨by omega, fun y h0 h1 => by omega⟩ rfl) (zsc rfl (zsc rfl zsn))
set_option maxHeartbeats 4000000 in
theorem C_X6_memberOf {K : zK} (hI : zInj K) (hM : kN K = 11) (tx : Int → Int) (ty : Int) (td dr bg ss pa : Int → Int) (kn : Int) (im : Int → Int) (kp : Int) (ns : Int → Int) (nd ap la : Int) (hh tt : Int → Int) (v : SV) (hv : okV v) (hd : mR dr bg v) (hz : zR bg) (h6 : qn v ≤ 6) (k s h b : Int) : zCv K yX6_memberOf cX6_memberOf 6 0 [.ref (kad K 0), .int (iI k), .int (iI s), .int (iI h), .int (iI b)] (layM K tx ty td dr bg ss pa kn im kp ns nd ap la hh tt) (fun u => ∃ d2 b2 : Int → Int, mR d2 b2 (memV v k s h b) ∧ zR b2 ∧ u = (layM K tx ty td d2 b2 ss pa kn im kp ns nd ap la hh tt)) := by
  have hn7 := hv.1
  have r1 := hd.1
  refine zCv_in hI (by decide +kernel) (Nat.le_of_ble_eq_true rfl) (fun X O hE => ?_)
  refine n_aload_n O dX6_memberOf_0 rfl ?_
  refine m_get_dr O hM fl_X6_16 dX6_memberOf_1 ?_
  refine r_iconst O dX6_memberOf_4 ?_
  refine m_ld_dr O hM (by omega) (by omega) dX6_memberOf_5 ?_
  refine n_istore O dX6_memberOf_6 (by decide) rfl ?_
  refine n_aload_n O dX6_memberOf_8 rfl ?_
  refine m_get_bg O hM fl_X6_19 dX6_memberOf_9 ?_
  refine n_iload O dX6_memberOf_12 rfl ?_
  refine n_iload_n O dX6_memberOf_14 rfl ?_
  refine m_st_bg O hM (by omega) (by omega) dX6_memberOf_15 ?_
  refine n_aload_n O dX6_memberOf_16 rfl ?_
  refine m_get_bg O hM fl_X6_19 dX6_memberOf_17 ?_
  refine r_bipush O (by decide +kernel) dX6_memberOf_20 ?_
  refine n_iload O dX6_memberOf_22 rfl ?_
  refine r_iadd O dX6_memberOf_24 ?_
  refine n_iload_n O dX6_memberOf_25 rfl ?_
  refine m_st_bg O hM (by omega) (by omega) dX6_memberOf_26 ?_
  refine n_aload_n O dX6_memberOf_27 rfl ?_
  refine m_get_bg O hM fl_X6_19 dX6_memberOf_28 ?_
  refine r_bipush O (by decide +kernel) dX6_memberOf_31 ?_
  refine n_iload O dX6_memberOf_33 rfl ?_
  refine r_iadd O dX6_memberOf_35 ?_
  refine n_iload_n O dX6_memberOf_36 rfl ?_
  refine m_st_bg O hM (by omega) (by omega) dX6_memberOf_37 ?_
  refine n_aload_n O dX6_memberOf_38 rfl ?_
  refine m_get_dr O hM fl_X6_16 dX6_memberOf_39 ?_
  refine r_iconst O dX6_memberOf_42 ?_
  refine n_iload O dX6_memberOf_43 rfl ?_
  refine r_iadd O dX6_memberOf_45 ?_
  refine n_iload O dX6_memberOf_46 rfl ?_
  refine m_st_dr O hM (by omega) (by omega) dX6_memberOf_48 ?_
  refine n_aload_n O dX6_memberOf_49 rfl ?_
  refine m_get_dr O hM fl_X6_16 dX6_memberOf_50 ?_
  refine r_iconst O dX6_memberOf_53 ?_
  refine r_dup2 O rfl rfl dX6_memberOf_54 ?_
  refine m_ld_dr O hM (by omega) (by omega) dX6_memberOf_55 ?_
  refine r_iconst O dX6_memberOf_56 ?_
  refine r_iadd O dX6_memberOf_57 ?_
  refine m_st_dr O hM (by omega) (by omega) dX6_memberOf_58 ?_
  exact hE _ _ _ dX6_memberOf_59 (by have hx := mR_mem hd hz (by omega) k s h b; (have e1 : uI dr (3 + dr 0) b 0 = dr 0 := uI_n _ _ (by omega)); rw [e1]; rw [r1]; exact ⟨_, _, hx.1, hx.2, rfl⟩)
