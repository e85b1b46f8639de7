theorem zCi_mono {K : zK} {y : MethodName} {b : ByteArray} {nL : Nat} {ret : Option FieldType} {f : Nat} {av : List Value} {ct : zE} {p q : Int → zE → Prop} (h : zCi K y b nL ret f av ct p) (hpq : ∀ z u, p z u → q z u) : zCi K y b nL ret f av ct q := by
  intro p0 e a c k s m args below h1 h2 h3 h4
  obtain ⟨t, o, g1, g2, g3, ⟨⟨⟨r, u, e1, ⟨z, e2, hz⟩, e3⟩, e4⟩, g5⟩⟩ := h p0 e a c k s m args below h1 h2 h3 h4
  exact ⟨t, o, g1, g2, g3, ⟨⟨⟨r, u, e1, ⟨z, e2, hpq z u hz⟩, e3⟩, e4⟩, g5⟩⟩
set_option maxHeartbeats 4000000 in
theorem C_X6_letterAt {K : zK} (hI : zInj K) (hM : kN K = 11) (tx : Int → Int) (ty : Int) (td dr bg ss pa : Int → Int) (kn : Int) (im : Int → Int) (kp : Int) (ns : Int → Int) (nd ap la : Int) (hh tt : Int → Int) (ht : okT tx ty) (p : Int) (hp : 0 ≤ p ∧ p ≤ 1000) : zCi K yX6_letterAt cX6_letterAt 2 (some .int) 0 [.ref (kad K 0), .int (iI p)] (layM K tx ty td dr bg ss pa kn im kp ns nd ap la hh tt) (fun z u => z = ltM tx ty p ∧ u = (layM K tx ty td dr bg ss pa kn im kp ns nd ap la hh tt)) := by
  have hty := ht.1
  refine zCi_in hI (by decide +kernel) (Nat.le_of_ble_eq_true rfl) (fun X O hE => ?_)
  refine n_iload_n O dX6_letterAt_0 rfl ?_
  refine n_aload_n O dX6_letterAt_1 rfl ?_
  refine m_get_ty O hM fl_X6_54 dX6_letterAt_2 ?_
  refine r_icmp_ge (tgt := 17) O ⟨by omega, by omega⟩ ⟨by omega, by omega⟩ dX6_letterAt_5 (by decide) (fun hc5 => ?_) (fun hc5 => ?_)
  · skip
    refine r_iconst O dX6_letterAt_17 ?_
    exact hE _ _ _ _ dX6_letterAt_18 rfl ⟨by unfold ltM; first | rw [if_pos (by omega)] | rw [if_neg (by omega)], rfl⟩
  · skip
    refine n_aload_n O dX6_letterAt_8 rfl ?_
    refine m_get_tx O hM fl_X6_7 dX6_letterAt_9 ?_
    refine n_iload_n O dX6_letterAt_12 rfl ?_
    refine m_ld_tx O hM (by omega) (by omega) dX6_letterAt_13 ?_
    refine r_goto (tgt := 18) O dX6_letterAt_14 (by decide) ?_
    exact hE _ _ _ _ dX6_letterAt_18 rfl ⟨by unfold ltM; first | rw [if_pos (by omega)] | rw [if_neg (by omega)], rfl⟩
set_option maxHeartbeats 4000000 in
theorem C_X6_number {K : zK} (hI : zInj K) (hM : kN K = 11) (tx : Int → Int) (ty : Int) (td dr bg ss pa : Int → Int) (kn : Int) (im : Int → Int) (kp : Int) (ns : Int → Int) (nd ap la : Int) (hh tt : Int → Int) (ht : okT tx ty) (hap : 0 ≤ ap ∧ ap ≤ 300) (lo hi e : Int) (hlo : 0 ≤ lo ∧ lo ≤ 99) (hhi : 0 ≤ hi ∧ hi ≤ 99) (he : e = 44 ∨ e = 59) : zCi K yX6_number cX6_number 6 (some .int) 2 [.ref (kad K 0), .int (iI lo), .int (iI hi), .int (iI e)] (layM K tx ty td dr bg ss pa kn im kp ns nd ap la hh tt) (fun z u => (numP tx ty ap lo hi e ∧ z = valT tx ty ap ∧ u = (layM K tx ty td dr bg ss pa kn im kp ns nd (ap + figsT tx ty ap + 1) la hh tt)) ∨ (¬ numP tx ty ap lo hi e ∧ z = -1 ∧ ∃ a2 : Int, (0 ≤ a2 ∧ a2 ≤ ap + 3) ∧ u = (layM K tx ty td dr bg ss pa kn im kp ns nd a2 la hh tt))) := by
  have hfc := figsT_c tx ty ap
  have hf1 := figI_c tx ty ap
  have hf2 := figI_c tx ty (ap + 1)
  have hvt : valT tx ty ap = if figsT tx ty ap = 1 then atT tx ty ap - 48 else 10 * (atT tx ty ap - 48) + (atT tx ty (ap + 1) - 48) := rfl
  refine zCi_in hI (by decide +kernel) (Nat.le_of_ble_eq_true rfl) (fun X O hE => ?_)
  refine n_aload_n O dX6_number_0 rfl ?_
  refine n_aload_n O dX6_number_1 rfl ?_
  refine m_get_ap O hM fl_X6_58 dX6_number_2 ?_
  refine r_callV1i O (C_X6_letterAt hI hM _ _ _ _ _ _ _ _ _ _ _ _ _ _ _ _ ht _ ⟨by omega, by omega⟩) q_X6_61 (by rw [hM]; decide) (fs := _) rfl rfl rfl (by decide) (by decide) (Nat.le_of_ble_eq_true rfl) dX6_number_5 (fun zz5 zu5 hz5 => ?_)
  obtain ⟨rfl, rfl⟩ := hz5
  have hlt1 := ltM_c ht (p := ap) (by omega)
  refine r_callS1i O (C_X6_isFigure hI _ _ ⟨by omega, by omega⟩) q_X6_65 (by decide) (by decide) (Nat.le_of_ble_eq_true rfl) dX6_number_8 (fun zz8 zu8 hz8 => ?_)
  obtain ⟨hzf1, rfl⟩ := hz8
  have hfi1 := inI_c hzf1
  refine r_if_ne (tgt := 16) O ⟨by omega, by omega⟩ dX6_number_11 (by decide) (fun hc11 => ?_) (fun hc11 => ?_)
  · skip
    refine n_aload_n O dX6_number_16 rfl ?_
    refine n_aload_n O dX6_number_17 rfl ?_
    refine m_get_ap O hM fl_X6_58 dX6_number_18 ?_
    refine r_callV1i O (C_X6_letterAt hI hM _ _ _ _ _ _ _ _ _ _ _ _ _ _ _ _ ht _ ⟨by omega, by omega⟩) q_X6_61 (by rw [hM]; decide) (fs := _) rfl rfl rfl (by decide) (by decide) (Nat.le_of_ble_eq_true rfl) dX6_number_21 (fun zz21 zu21 hz21 => ?_)
    obtain ⟨rfl, rfl⟩ := hz21
    have hlt2 := ltM_c ht (p := ap) (by omega)
    refine r_bipush O (by decide +kernel) dX6_number_24 ?_
    refine r_isub O dX6_number_26 ?_
    refine n_istore O dX6_number_27 (by decide) rfl ?_
    refine n_aload_n O dX6_number_29 rfl ?_
    refine r_dup O rfl dX6_number_30 ?_
    refine m_get_ap O hM fl_X6_58 dX6_number_31 ?_
    refine r_iconst O dX6_number_34 ?_
    refine r_iadd O dX6_number_35 ?_
    refine m_put_ap O hM fl_X6_58 dX6_number_36 ?_
    refine n_aload_n O dX6_number_39 rfl ?_
    refine n_aload_n O dX6_number_40 rfl ?_
    refine m_get_ap O hM fl_X6_58 dX6_number_41 ?_
    refine r_callV1i O (C_X6_letterAt hI hM _ _ _ _ _ _ _ _ _ _ _ _ _ _ _ _ ht _ ⟨by omega, by omega⟩) q_X6_61 (by rw [hM]; decide) (fs := _) rfl rfl rfl (by decide) (by decide) (Nat.le_of_ble_eq_true rfl) dX6_number_44 (fun zz44 zu44 hz44 => ?_)
    obtain ⟨rfl, rfl⟩ := hz44
    have hlt3 := ltM_c ht (p := ap + 1) (by omega)
    refine r_callS1i O (C_X6_isFigure hI _ _ ⟨by omega, by omega⟩) q_X6_65 (by decide) (by decide) (Nat.le_of_ble_eq_true rfl) dX6_number_47 (fun zz47 zu47 hz47 => ?_)
    obtain ⟨hzf3, rfl⟩ := hz47
    have hfi3 := inI_c hzf3
    refine r_if_eq (tgt := 82) O ⟨by omega, by omega⟩ dX6_number_50 (by decide) (fun hc50 => ?_) (fun hc50 => ?_)
    · skip
      refine n_aload_n O dX6_number_82 rfl ?_
      refine n_aload_n O dX6_number_83 rfl ?_
      refine m_get_ap O hM fl_X6_58 dX6_number_84 ?_
      refine r_callV1i O (C_X6_letterAt hI hM _ _ _ _ _ _ _ _ _ _ _ _ _ _ _ _ ht _ ⟨by omega, by omega⟩) q_X6_61 (by rw [hM]; decide) (fs := _) rfl rfl rfl (by decide) (by decide) (Nat.le_of_ble_eq_true rfl) dX6_number_87 (fun zz87 zu87 hz87 => ?_)
      obtain ⟨rfl, rfl⟩ := hz87
      have hlt5 := ltM_c ht (p := ap + 1) (by omega)
      have hlt6 := ltM_c ht (p := ap + 1 + 1) (by omega)
      refine n_iload_n O dX6_number_90 rfl ?_
      refine r_icmp_ne (tgt := 108) O ⟨by omega, by omega⟩ ⟨by omega, by omega⟩ dX6_number_91 (by decide) (fun hc91 => ?_) (fun hc91 => ?_)
      · skip
        refine r_iconst O dX6_number_108 ?_
        refine n_istore O dX6_number_109 (by decide) rfl ?_
        refine n_aload_n O dX6_number_111 rfl ?_
        refine r_dup O rfl dX6_number_112 ?_
        refine m_get_ap O hM fl_X6_58 dX6_number_113 ?_
        refine r_iconst O dX6_number_116 ?_
        refine r_iadd O dX6_number_117 ?_
        refine m_put_ap O hM fl_X6_58 dX6_number_118 ?_
        refine n_iload O dX6_number_121 rfl ?_
        refine r_if_eq (tgt := 131) O ⟨by omega, by omega⟩ dX6_number_123 (by decide) (fun hc123 => ?_) (fun hc123 => ?_)
        · skip
          refine r_iconst O dX6_number_131 ?_
          exact hE _ _ _ _ dX6_number_132 rfl (by first | (exfalso; omega) | (exact Or.inr ⟨by rintro ⟨q1, q2, q3, q4⟩; rcases hfc with h | h | h; omega; (rw [h.1] at q2; rw [if_pos h.1] at hvt; omega); (rw [h.1] at q2; rw [if_neg (by omega)] at hvt; (have e9 : ap + 2 = ap + 1 + 1 := by omega); rw [e9] at q2; omega), rfl, _, ⟨by omega, by omega⟩, rfl⟩) | (exact Or.inl ⟨by rcases hfc with h | h | h; (exfalso; omega); (refine ⟨by omega, by rw [h.1]; omega, ?_, ?_⟩ <;> (rw [if_pos h.1] at hvt; omega)); (refine ⟨by omega, by rw [h.1]; (have e9 : ap + 2 = ap + 1 + 1 := by omega); rw [e9]; omega, ?_, ?_⟩ <;> (rw [if_neg (by omega)] at hvt; omega)), by rcases hfc with h | h | h; (exfalso; omega); (rw [if_pos h.1] at hvt; omega); (rw [if_neg (by omega)] at hvt; omega), by first | ((have e8 : ap + 1 + 1 = ap + figsT tx ty ap + 1 := by omega); rw [e8]) | ((have e8 : ap + 1 + 1 + 1 = ap + figsT tx ty ap + 1 := by omega); rw [e8])⟩))
        · skip
          exfalso; omega
      · skip
        refine n_iload O dX6_number_94 rfl ?_
        refine n_iload_n O dX6_number_96 rfl ?_
        refine n_iload_n O dX6_number_97 rfl ?_
        refine r_callS3i O (C_X6_in hI _ _ _ _ ⟨by omega, by omega⟩ ⟨by omega, by omega⟩ ⟨by omega, by omega⟩) q_X6_50 (by decide) (by decide) (Nat.le_of_ble_eq_true rfl) dX6_number_98 (fun zz98 zu98 hz98 => ?_)
        obtain ⟨hzi98, rfl⟩ := hz98
        have hic98 := inI_c hzi98
        refine r_if_eq (tgt := 108) O ⟨by omega, by omega⟩ dX6_number_101 (by decide) (fun hc101 => ?_) (fun hc101 => ?_)
        · skip
          refine r_iconst O dX6_number_108 ?_
          refine n_istore O dX6_number_109 (by decide) rfl ?_
          refine n_aload_n O dX6_number_111 rfl ?_
          refine r_dup O rfl dX6_number_112 ?_
          refine m_get_ap O hM fl_X6_58 dX6_number_113 ?_
          refine r_iconst O dX6_number_116 ?_
          refine r_iadd O dX6_number_117 ?_
          refine m_put_ap O hM fl_X6_58 dX6_number_118 ?_
          refine n_iload O dX6_number_121 rfl ?_
          refine r_if_eq (tgt := 131) O ⟨by omega, by omega⟩ dX6_number_123 (by decide) (fun hc123 => ?_) (fun hc123 => ?_)
          · skip
            refine r_iconst O dX6_number_131 ?_
            exact hE _ _ _ _ dX6_number_132 rfl (by first | (exfalso; omega) | (exact Or.inr ⟨by rintro ⟨q1, q2, q3, q4⟩; rcases hfc with h | h | h; omega; (rw [h.1] at q2; rw [if_pos h.1] at hvt; omega); (rw [h.1] at q2; rw [if_neg (by omega)] at hvt; (have e9 : ap + 2 = ap + 1 + 1 := by omega); rw [e9] at q2; omega), rfl, _, ⟨by omega, by omega⟩, rfl⟩) | (exact Or.inl ⟨by rcases hfc with h | h | h; (exfalso; omega); (refine ⟨by omega, by rw [h.1]; omega, ?_, ?_⟩ <;> (rw [if_pos h.1] at hvt; omega)); (refine ⟨by omega, by rw [h.1]; (have e9 : ap + 2 = ap + 1 + 1 := by omega); rw [e9]; omega, ?_, ?_⟩ <;> (rw [if_neg (by omega)] at hvt; omega)), by rcases hfc with h | h | h; (exfalso; omega); (rw [if_pos h.1] at hvt; omega); (rw [if_neg (by omega)] at hvt; omega), by first | ((have e8 : ap + 1 + 1 = ap + figsT tx ty ap + 1 := by omega); rw [e8]) | ((have e8 : ap + 1 + 1 + 1 = ap + figsT tx ty ap + 1 := by omega); rw [e8])⟩))
          · skip
            exfalso; omega
        · skip
          refine r_iconst O dX6_number_104 ?_
          refine r_goto (tgt := 109) O dX6_number_105 (by decide) ?_
          refine n_istore O dX6_number_109 (by decide) rfl ?_
          refine n_aload_n O dX6_number_111 rfl ?_
          refine r_dup O rfl dX6_number_112 ?_
          refine m_get_ap O hM fl_X6_58 dX6_number_113 ?_
          refine r_iconst O dX6_number_116 ?_
          refine r_iadd O dX6_number_117 ?_
          refine m_put_ap O hM fl_X6_58 dX6_number_118 ?_
          refine n_iload O dX6_number_121 rfl ?_
          refine r_if_eq (tgt := 131) O ⟨by omega, by omega⟩ dX6_number_123 (by decide) (fun hc123 => ?_) (fun hc123 => ?_)
          · skip
            exfalso; omega
          · skip
            refine n_iload O dX6_number_126 rfl ?_
            refine r_goto (tgt := 132) O dX6_number_128 (by decide) ?_
            exact hE _ _ _ _ dX6_number_132 rfl (by first | (exfalso; omega) | (exact Or.inr ⟨by rintro ⟨q1, q2, q3, q4⟩; rcases hfc with h | h | h; omega; (rw [h.1] at q2; rw [if_pos h.1] at hvt; omega); (rw [h.1] at q2; rw [if_neg (by omega)] at hvt; (have e9 : ap + 2 = ap + 1 + 1 := by omega); rw [e9] at q2; omega), rfl, _, ⟨by omega, by omega⟩, rfl⟩) | (exact Or.inl ⟨by rcases hfc with h | h | h; (exfalso; omega); (refine ⟨by omega, by rw [h.1]; omega, ?_, ?_⟩ <;> (rw [if_pos h.1] at hvt; omega)); (refine ⟨by omega, by rw [h.1]; (have e9 : ap + 2 = ap + 1 + 1 := by omega); rw [e9]; omega, ?_, ?_⟩ <;> (rw [if_neg (by omega)] at hvt; omega)), by rcases hfc with h | h | h; (exfalso; omega); (rw [if_pos h.1] at hvt; omega); (rw [if_neg (by omega)] at hvt; omega), by first | ((have e8 : ap + 1 + 1 = ap + figsT tx ty ap + 1 := by omega); rw [e8]) | ((have e8 : ap + 1 + 1 + 1 = ap + figsT tx ty ap + 1 := by omega); rw [e8])⟩))
    · skip
      refine r_bipush O (by decide +kernel) dX6_number_53 ?_
      refine n_iload O dX6_number_55 rfl ?_
      refine r_imul O dX6_number_57 ?_
      refine n_aload_n O dX6_number_58 rfl ?_
      refine n_aload_n O dX6_number_59 rfl ?_
      refine m_get_ap O hM fl_X6_58 dX6_number_60 ?_
      refine r_callV1i O (C_X6_letterAt hI hM _ _ _ _ _ _ _ _ _ _ _ _ _ _ _ _ ht _ ⟨by omega, by omega⟩) q_X6_61 (by rw [hM]; decide) (fs := _) rfl rfl rfl (by decide) (by decide) (Nat.le_of_ble_eq_true rfl) dX6_number_63 (fun zz63 zu63 hz63 => ?_)
      obtain ⟨rfl, rfl⟩ := hz63
      have hlt4 := ltM_c ht (p := ap + 1) (by omega)
      refine r_iadd O dX6_number_66 ?_
      refine r_bipush O (by decide +kernel) dX6_number_67 ?_
      refine r_isub O dX6_number_69 ?_
      refine n_istore O dX6_number_70 (by decide) rfl ?_
      refine n_aload_n O dX6_number_72 rfl ?_
      refine r_dup O rfl dX6_number_73 ?_
      refine m_get_ap O hM fl_X6_58 dX6_number_74 ?_
      refine r_iconst O dX6_number_77 ?_
      refine r_iadd O dX6_number_78 ?_
      refine m_put_ap O hM fl_X6_58 dX6_number_79 ?_
      refine n_aload_n O dX6_number_82 rfl ?_
      refine n_aload_n O dX6_number_83 rfl ?_
      refine m_get_ap O hM fl_X6_58 dX6_number_84 ?_
      refine r_callV1i O (C_X6_letterAt hI hM _ _ _ _ _ _ _ _ _ _ _ _ _ _ _ _ ht _ ⟨by omega, by omega⟩) q_X6_61 (by rw [hM]; decide) (fs := _) rfl rfl rfl (by decide) (by decide) (Nat.le_of_ble_eq_true rfl) dX6_number_87 (fun zz87 zu87 hz87 => ?_)
      obtain ⟨rfl, rfl⟩ := hz87
      have hlt5 := ltM_c ht (p := ap + 1) (by omega)
      have hlt6 := ltM_c ht (p := ap + 1 + 1) (by omega)
      refine n_iload_n O dX6_number_90 rfl ?_
      refine r_icmp_ne (tgt := 108) O ⟨by omega, by omega⟩ ⟨by omega, by omega⟩ dX6_number_91 (by decide) (fun hc91 => ?_) (fun hc91 => ?_)
      · skip
        refine r_iconst O dX6_number_108 ?_
        refine n_istore O dX6_number_109 (by decide) rfl ?_
        refine n_aload_n O dX6_number_111 rfl ?_
        refine r_dup O rfl dX6_number_112 ?_
        refine m_get_ap O hM fl_X6_58 dX6_number_113 ?_
        refine r_iconst O dX6_number_116 ?_
        refine r_iadd O dX6_number_117 ?_
        refine m_put_ap O hM fl_X6_58 dX6_number_118 ?_
        refine n_iload O dX6_number_121 rfl ?_
        refine r_if_eq (tgt := 131) O ⟨by omega, by omega⟩ dX6_number_123 (by decide) (fun hc123 => ?_) (fun hc123 => ?_)
        · skip
          refine r_iconst O dX6_number_131 ?_
          exact hE _ _ _ _ dX6_number_132 rfl (by first | (exfalso; omega) | (exact Or.inr ⟨by rintro ⟨q1, q2, q3, q4⟩; rcases hfc with h | h | h; omega; (rw [h.1] at q2; rw [if_pos h.1] at hvt; omega); (rw [h.1] at q2; rw [if_neg (by omega)] at hvt; (have e9 : ap + 2 = ap + 1 + 1 := by omega); rw [e9] at q2; omega), rfl, _, ⟨by omega, by omega⟩, rfl⟩) | (exact Or.inl ⟨by rcases hfc with h | h | h; (exfalso; omega); (refine ⟨by omega, by rw [h.1]; omega, ?_, ?_⟩ <;> (rw [if_pos h.1] at hvt; omega)); (refine ⟨by omega, by rw [h.1]; (have e9 : ap + 2 = ap + 1 + 1 := by omega); rw [e9]; omega, ?_, ?_⟩ <;> (rw [if_neg (by omega)] at hvt; omega)), by rcases hfc with h | h | h; (exfalso; omega); (rw [if_pos h.1] at hvt; omega); (rw [if_neg (by omega)] at hvt; omega), by first | ((have e8 : ap + 1 + 1 = ap + figsT tx ty ap + 1 := by omega); rw [e8]) | ((have e8 : ap + 1 + 1 + 1 = ap + figsT tx ty ap + 1 := by omega); rw [e8])⟩))
        · skip
          exfalso; omega
      · skip
        refine n_iload O dX6_number_94 rfl ?_
        refine n_iload_n O dX6_number_96 rfl ?_
        refine n_iload_n O dX6_number_97 rfl ?_
        refine r_callS3i O (C_X6_in hI _ _ _ _ ⟨by omega, by omega⟩ ⟨by omega, by omega⟩ ⟨by omega, by omega⟩) q_X6_50 (by decide) (by decide) (Nat.le_of_ble_eq_true rfl) dX6_number_98 (fun zz98 zu98 hz98 => ?_)
        obtain ⟨hzi98, rfl⟩ := hz98
        have hic98 := inI_c hzi98
        refine r_if_eq (tgt := 108) O ⟨by omega, by omega⟩ dX6_number_101 (by decide) (fun hc101 => ?_) (fun hc101 => ?_)
        · skip
          refine r_iconst O dX6_number_108 ?_
          refine n_istore O dX6_number_109 (by decide) rfl ?_
          refine n_aload_n O dX6_number_111 rfl ?_
          refine r_dup O rfl dX6_number_112 ?_
          refine m_get_ap O hM fl_X6_58 dX6_number_113 ?_
          refine r_iconst O dX6_number_116 ?_
          refine r_iadd O dX6_number_117 ?_
          refine m_put_ap O hM fl_X6_58 dX6_number_118 ?_
          refine n_iload O dX6_number_121 rfl ?_
          refine r_if_eq (tgt := 131) O ⟨by omega, by omega⟩ dX6_number_123 (by decide) (fun hc123 => ?_) (fun hc123 => ?_)
          · skip
            refine r_iconst O dX6_number_131 ?_
            exact hE _ _ _ _ dX6_number_132 rfl (by first | (exfalso; omega) | (exact Or.inr ⟨by rintro ⟨q1, q2, q3, q4⟩; rcases hfc with h | h | h; omega; (rw [h.1] at q2; rw [if_pos h.1] at hvt; omega); (rw [h.1] at q2; rw [if_neg (by omega)] at hvt; (have e9 : ap + 2 = ap + 1 + 1 := by omega); rw [e9] at q2; omega), rfl, _, ⟨by omega, by omega⟩, rfl⟩) | (exact Or.inl ⟨by rcases hfc with h | h | h; (exfalso; omega); (refine ⟨by omega, by rw [h.1]; omega, ?_, ?_⟩ <;> (rw [if_pos h.1] at hvt; omega)); (refine ⟨by omega, by rw [h.1]; (have e9 : ap + 2 = ap + 1 + 1 := by omega); rw [e9]; omega, ?_, ?_⟩ <;> (rw [if_neg (by omega)] at hvt; omega)), by rcases hfc with h | h | h; (exfalso; omega); (rw [if_pos h.1] at hvt; omega); (rw [if_neg (by omega)] at hvt; omega), by first | ((have e8 : ap + 1 + 1 = ap + figsT tx ty ap + 1 := by omega); rw [e8]) | ((have e8 : ap + 1 + 1 + 1 = ap + figsT tx ty ap + 1 := by omega); rw [e8])⟩))
          · skip
            exfalso; omega
        · skip
          refine r_iconst O dX6_number_104 ?_
          refine r_goto (tgt := 109) O dX6_number_105 (by decide) ?_
          refine n_istore O dX6_number_109 (by decide) rfl ?_
          refine n_aload_n O dX6_number_111 rfl ?_
          refine r_dup O rfl dX6_number_112 ?_
          refine m_get_ap O hM fl_X6_58 dX6_number_113 ?_
          refine r_iconst O dX6_number_116 ?_
          refine r_iadd O dX6_number_117 ?_
          refine m_put_ap O hM fl_X6_58 dX6_number_118 ?_
          refine n_iload O dX6_number_121 rfl ?_
          refine r_if_eq (tgt := 131) O ⟨by omega, by omega⟩ dX6_number_123 (by decide) (fun hc123 => ?_) (fun hc123 => ?_)
          · skip
            exfalso; omega
          · skip
            refine n_iload O dX6_number_126 rfl ?_
            refine r_goto (tgt := 132) O dX6_number_128 (by decide) ?_
            exact hE _ _ _ _ dX6_number_132 rfl (by first | (exfalso; omega) | (exact Or.inr ⟨by rintro ⟨q1, q2, q3, q4⟩; rcases hfc with h | h | h; omega; (rw [h.1] at q2; rw [if_pos h.1] at hvt; omega); (rw [h.1] at q2; rw [if_neg (by omega)] at hvt; (have e9 : ap + 2 = ap + 1 + 1 := by omega); rw [e9] at q2; omega), rfl, _, ⟨by omega, by omega⟩, rfl⟩) | (exact Or.inl ⟨by rcases hfc with h | h | h; (exfalso; omega); (refine ⟨by omega, by rw [h.1]; omega, ?_, ?_⟩ <;> (rw [if_pos h.1] at hvt; omega)); (refine ⟨by omega, by rw [h.1]; (have e9 : ap + 2 = ap + 1 + 1 := by omega); rw [e9]; omega, ?_, ?_⟩ <;> (rw [if_neg (by omega)] at hvt; omega)), by rcases hfc with h | h | h; (exfalso; omega); (rw [if_pos h.1] at hvt; omega); (rw [if_neg (by omega)] at hvt; omega), by first | ((have e8 : ap + 1 + 1 = ap + figsT tx ty ap + 1 := by omega); rw [e8]) | ((have e8 : ap + 1 + 1 + 1 = ap + figsT tx ty ap + 1 := by omega); rw [e8])⟩))
  · skip
    refine r_iconst O dX6_number_14 ?_
    exact hE _ _ _ _ dX6_number_15 rfl (Or.inr ⟨fun q => by have := q.1; omega, rfl, ap, by omega, rfl⟩)
set_option maxHeartbeats 4000000 in
theorem C_X6_begins {K : zK} (hI : zInj K) (hM : kN K = 11) (tx : Int → Int) (ty : Int) (td dr bg ss pa : Int → Int) (kn : Int) (im : Int → Int) (kp : Int) (ns : Int → Int) (nd ap la : Int) (hh tt : Int → Int)  : zCv K yX6_begins cX6_begins 2 0 [.ref (kad K 0)] (layM K tx ty td dr bg ss pa kn im kp ns nd ap la hh tt) (fun u => ∃ d2 b2 : Int → Int, (∀ w : SV, mR d2 b2 (clearV w)) ∧ zR b2 ∧ u = (layM K tx ty td d2 b2 ss pa kn im kp ns nd ap la hh tt)) := by
  refine zCv_in hI (by decide +kernel) (Nat.le_of_ble_eq_true rfl) (fun X O hE => ?_)
  refine r_iconst O dX6_begins_0 ?_
  refine n_istore_n O dX6_begins_1 (by decide) rfl ?_
  have L2 : ∀ (zk : Nat) (i : Int) (d1 : Int → Int), ((0 ≤ i ∧ i ≤ 10) ∧ ∀ y : Int, 0 ≤ y → y < i → d1 y = 0) → (10 - i).toNat = zk → G K X 2 2 [(0, .ref (kad K 0)), (1, .int (iI i))] [] (layM K tx ty td d1 bg ss pa kn im kp ns nd ap la hh tt) := by
    intro zk
    induction zk using Nat.strongRecOn with
    | ind zk ih2 =>
      intro i d1 hinv hk
      obtain ⟨hi, hq⟩ := hinv
      refine n_iload_n O dX6_begins_2 rfl ?_
      refine r_bipush O (by decide +kernel) dX6_begins_3 ?_
      refine r_icmp_ge (tgt := 21) O ⟨by omega, by omega⟩ ⟨by omega, by omega⟩ dX6_begins_5 (by decide) (fun hc5 => ?_) (fun hc5 => ?_)
      · skip
        refine r_iconst O dX6_begins_21 ?_
        refine n_istore_n O dX6_begins_22 (by decide) rfl ?_
        have L23 : ∀ (zk : Nat) (k : Int) (b1 : Int → Int), ((0 ≤ k ∧ k ≤ 31) ∧ ∀ y : Int, 0 ≤ y → y < k → b1 y = 0) → (31 - k).toNat = zk → G K X 2 23 [(0, .ref (kad K 0)), (1, .int (iI k))] [] (layM K tx ty td d1 b1 ss pa kn im kp ns nd ap la hh tt) := by
          intro zk
          induction zk using Nat.strongRecOn with
          | ind zk ih23 =>
            intro k b1 hinv hk
            obtain ⟨hk, hq2⟩ := hinv
            refine n_iload_n O dX6_begins_23 rfl ?_
            refine r_bipush O (by decide +kernel) dX6_begins_24 ?_
            refine r_icmp_ge (tgt := 42) O ⟨by omega, by omega⟩ ⟨by omega, by omega⟩ dX6_begins_26 (by decide) (fun hc26 => ?_) (fun hc26 => ?_)
            · skip
              refine n_aload_n O dX6_begins_42 rfl ?_
              refine m_get_dr O hM fl_X6_16 dX6_begins_43 ?_
              refine r_iconst O dX6_begins_46 ?_
              refine r_iconst O dX6_begins_47 ?_
              refine m_st_dr O hM (by omega) (by omega) dX6_begins_48 ?_
              refine n_aload_n O dX6_begins_49 rfl ?_
              refine m_get_dr O hM fl_X6_16 dX6_begins_50 ?_
              refine r_iconst O dX6_begins_53 ?_
              refine r_bipush O (by decide +kernel) dX6_begins_54 ?_
              refine m_st_dr O hM (by omega) (by omega) dX6_begins_56 ?_
              refine n_aload_n O dX6_begins_57 rfl ?_
              refine m_get_bg O hM fl_X6_19 dX6_begins_58 ?_
              refine r_bipush O (by decide +kernel) dX6_begins_61 ?_
              refine r_bipush O (by decide +kernel) dX6_begins_63 ?_
              refine m_st_bg O hM (by omega) (by omega) dX6_begins_65 ?_
              refine n_aload_n O dX6_begins_66 rfl ?_
              refine m_get_bg O hM fl_X6_19 dX6_begins_67 ?_
              refine r_bipush O (by decide +kernel) dX6_begins_70 ?_
              refine r_iconst O dX6_begins_72 ?_
              refine m_st_bg O hM (by omega) (by omega) dX6_begins_73 ?_
              refine n_aload_n O dX6_begins_74 rfl ?_
              refine m_get_bg O hM fl_X6_19 dX6_begins_75 ?_
              refine r_bipush O (by decide +kernel) dX6_begins_78 ?_
              refine r_iconst O dX6_begins_80 ?_
              refine m_st_bg O hM (by omega) (by omega) dX6_begins_81 ?_
              exact hE _ _ _ dX6_begins_82 ⟨_, _, fun w => mR_clear (by rw [uI_n _ _ (by omega), uI_n _ _ (by omega)]; exact hq 0 (by omega) (by omega)) (by rw [uI_n _ _ (by omega), uI_n _ _ (by omega), uI_s]) (by rw [uI_n _ _ (by omega), uI_s]) (by rw [uI_s]) (by rw [uI_n _ _ (by omega), uI_s]) (by rw [uI_s]) w, fun y h0 h1 => by rw [uI_n _ _ (by omega), uI_n _ _ (by omega), uI_n _ _ (by omega)]; exact hq2 _ (by omega) (by omega), rfl⟩
            · skip
              refine n_aload_n O dX6_begins_29 rfl ?_
              refine m_get_bg O hM fl_X6_19 dX6_begins_30 ?_
              refine n_iload_n O dX6_begins_33 rfl ?_
              refine r_iconst O dX6_begins_34 ?_
              refine m_st_bg O hM (by omega) (by omega) dX6_begins_35 ?_
              refine n_iinc O dX6_begins_36 (by decide) rfl rfl ?_
              refine r_goto (tgt := 23) O dX6_begins_39 (by decide) ?_
              exact G_chk (ih23 _ (by omega) (k + 1) _ ⟨by omega, fun y h0 h1 => by unfold uI; split; rfl; exact hq2 y h0 (by omega)⟩ rfl) (zsc rfl (zsc rfl zsn))
        exact G_chk (L23 _ 0 bg ⟨by omega, fun y h0 h1 => by omega⟩ rfl) (zsc rfl (zsc rfl zsn))
      · skip
        refine n_aload_n O dX6_begins_8 rfl ?_
        refine m_get_dr O hM fl_X6_16 dX6_begins_9 ?_
        refine n_iload_n O dX6_begins_12 rfl ?_
        refine r_iconst O dX6_begins_13 ?_
        refine m_st_dr O hM (by omega) (by omega) dX6_begins_14 ?_
        refine n_iinc O dX6_begins_15 (by decide) rfl rfl ?_
        refine r_goto (tgt := 2) O dX6_begins_18 (by decide) ?_
        exact G_chk (ih2 _ (by omega) (i + 1) _ ⟨by omega, fun y h0 h1 => by unfold uI; split; rfl; exact hq y h0 (by omega)⟩ rfl) (zsc rfl (zsc rfl zsn))
  exact G_chk (L2 _ 0 dr ⟨by omega, fun y h0 h1 => by omega⟩ rfl) (zsc rfl (zsc rfl zsn))
set_option maxHeartbeats 4000000 in
theorem C_X6_memberOf {K : zK} (hI : zInj K) (hM : kN K = 11) (tx : Int → Int) (ty : Int) (td dr bg ss pa : Int → Int) (kn : Int) (im : Int → Int) (kp : Int) (ns : Int → Int) (nd ap la : Int) (hh tt : Int → Int) (v : SV) (hv : okV v) (hd : mR dr bg v) (hz : zR bg) (h6 : qn v ≤ 6) (k s h b : Int) : zCv K yX6_memberOf cX6_memberOf 6 0 [.ref (kad K 0), .int (iI k), .int (iI s), .int (iI h), .int (iI b)] (layM K tx ty td dr bg ss pa kn im kp ns nd ap la hh tt) (fun u => ∃ d2 b2 : Int → Int, mR d2 b2 (memV v k s h b) ∧ zR b2 ∧ u = (layM K tx ty td d2 b2 ss pa kn im kp ns nd ap la hh tt)) := by
  have hn7 := hv.1
  have r1 := hd.1
  refine zCv_in hI (by decide +kernel) (Nat.le_of_ble_eq_true rfl) (fun X O hE => ?_)
  refine n_aload_n O dX6_memberOf_0 rfl ?_
  refine m_get_dr O hM fl_X6_16 dX6_memberOf_1 ?_
  refine r_iconst O dX6_memberOf_4 ?_
  refine m_ld_dr O hM (by omega) (by omega) dX6_memberOf_5 ?_
  refine n_istore O dX6_memberOf_6 (by decide) rfl ?_
  refine n_aload_n O dX6_memberOf_8 rfl ?_
  refine m_get_bg O hM fl_X6_19 dX6_memberOf_9 ?_
  refine n_iload O dX6_memberOf_12 rfl ?_
  refine n_iload_n O dX6_memberOf_14 rfl ?_
  refine m_st_bg O hM (by omega) (by omega) dX6_memberOf_15 ?_
  refine n_aload_n O dX6_memberOf_16 rfl ?_
  refine m_get_bg O hM fl_X6_19 dX6_memberOf_17 ?_
  refine r_bipush O (by decide +kernel) dX6_memberOf_20 ?_
  refine n_iload O dX6_memberOf_22 rfl ?_
  refine r_iadd O dX6_memberOf_24 ?_
  refine n_iload_n O dX6_memberOf_25 rfl ?_
  refine m_st_bg O hM (by omega) (by omega) dX6_memberOf_26 ?_
  refine n_aload_n O dX6_memberOf_27 rfl ?_
  refine m_get_bg O hM fl_X6_19 dX6_memberOf_28 ?_
  refine r_bipush O (by decide +kernel) dX6_memberOf_31 ?_
  refine n_iload O dX6_memberOf_33 rfl ?_
  refine r_iadd O dX6_memberOf_35 ?_
  refine n_iload_n O dX6_memberOf_36 rfl ?_
  refine m_st_bg O hM (by omega) (by omega) dX6_memberOf_37 ?_
  refine n_aload_n O dX6_memberOf_38 rfl ?_
  refine m_get_dr O hM fl_X6_16 dX6_memberOf_39 ?_
  refine r_iconst O dX6_memberOf_42 ?_
  refine n_iload O dX6_memberOf_43 rfl ?_
  refine r_iadd O dX6_memberOf_45 ?_
  refine n_iload O dX6_memberOf_46 rfl ?_
  refine m_st_dr O hM (by omega) (by omega) dX6_memberOf_48 ?_
  refine n_aload_n O dX6_memberOf_49 rfl ?_
  refine m_get_dr O hM fl_X6_16 dX6_memberOf_50 ?_
  refine r_iconst O dX6_memberOf_53 ?_
  refine r_dup2 O rfl rfl dX6_memberOf_54 ?_
  refine m_ld_dr O hM (by omega) (by omega) dX6_memberOf_55 ?_
  refine r_iconst O dX6_memberOf_56 ?_
  refine r_iadd O dX6_memberOf_57 ?_
  refine m_st_dr O hM (by omega) (by omega) dX6_memberOf_58 ?_
  exact hE _ _ _ dX6_memberOf_59 (by have hx := mR_mem hd hz (by omega) k s h b; (have e1 : uI dr (3 + dr 0) b 0 = dr 0 := uI_n _ _ (by omega)); rw [e1]; rw [r1]; exact ⟨_, _, hx.1, hx.2, rfl⟩)
theorem N_X6_number {K : zK} (hI : zInj K) (hM : kN K = 11) (tx : Int → Int) (ty : Int) (td dr bg ss pa : Int → Int) (kn : Int) (im : Int → Int) (kp : Int) (ns : Int → Int) (nd ap la : Int) (hh tt : Int → Int) (ht : okT tx ty) (hap : 0 ≤ ap ∧ ap ≤ 300) (lo hi e : Int) (hlo : 0 ≤ lo ∧ lo ≤ 99) (hhi : 0 ≤ hi ∧ hi ≤ 99) (he : e = 44 ∨ e = 59) : zCi K yX6_number cX6_number 6 (some .int) 2 [.ref (kad K 0), .int (iI lo), .int (iI hi), .int (iI e)] (layM K tx ty td dr bg ss pa kn im kp ns nd ap la hh tt) (fun z u => ∃ a1 : Int, ((-1 ≤ z ∧ z ≤ 99) ∧ 0 ≤ a1 ∧ a1 ≤ ap + 3) ∧ ((0 ≤ z ∧ numP tx ty ap lo hi e ∧ z = valT tx ty ap ∧ a1 = ap + figsT tx ty ap + 1) ∨ (z = -1 ∧ ¬ numP tx ty ap lo hi e)) ∧ u = (layM K tx ty td dr bg ss pa kn im kp ns nd a1 la hh tt)) := by
  have h := C_X6_number hI hM tx ty td dr bg ss pa kn im kp ns nd ap la hh tt ht hap lo hi e hlo hhi he
  refine zCi_mono h (fun z u hz => ?_)
  have hf := figsT_c tx ty ap
  rcases hz with ⟨h1, h2, h3⟩ | ⟨h1, h2, a2, h3, h4⟩
  · have h5 := h1.2.2
    exact ⟨_, ⟨by omega, by omega, by omega⟩, Or.inl ⟨by omega, h1, h2, rfl⟩, h3⟩
  · exact ⟨a2, ⟨by omega, by omega, by omega⟩, Or.inr ⟨h2, h1⟩, h4⟩
set_option maxHeartbeats 4000000 in
theorem C_X6_readsItem {K : zK} (hI : zInj K) (hM : kN K = 11) (tx : Int → Int) (ty : Int) (td dr bg ss pa : Int → Int) (kn : Int) (im : Int → Int) (kp : Int) (ns : Int → Int) (nd ap la : Int) (hh tt : Int → Int) (v : SV) (hv : okV v) (hd : mR dr bg v) (hz : zR bg) (ht : okT tx ty) (hap : 1 ≤ ap ∧ ap ≤ ty) (x : Int) (hx : x = atT tx ty (ap - 1)) : zCi K yX6_readsItem cX6_readsItem 6 (some .boolean) 3 [.ref (kad K 0), .int (iI x)] (layM K tx ty td dr bg ss pa kn im kp ns nd ap la hh tt) (fun z u => (itP tx ty (ap - 1) (qn v) ∧ z = 1 ∧ ∃ d2 b2 : Int → Int, mR d2 b2 (tV x v (nuT tx ty (ap - 1) 0) (nuT tx ty (ap - 1) 1) (nuT tx ty (ap - 1) 2) (nuT tx ty (ap - 1) 3)) ∧ zR b2 ∧ u = (layM K tx ty td d2 b2 ss pa kn im kp ns nd (endI tx ty (ap - 1)) la hh tt)) ∨ (¬ itP tx ty (ap - 1) (qn v) ∧ z = 0 ∧ ∃ (d2 b2 : Int → Int) (a2 : Int), u = (layM K tx ty td d2 b2 ss pa kn im kp ns nd a2 la hh tt))) := by
  have hty := ht.1
  have hxb := atT_b ht (ap - 1)
  have hn7 := hv.1
  have r1 := hd.1
  refine zCi_in hI (by decide +kernel) (Nat.le_of_ble_eq_true rfl) (fun X O hE => ?_)
  refine n_iload_n O dX6_readsItem_0 rfl ?_
  have hsw : x = 102 ∨ x = 109 ∨ x = 112 ∨ x = 114 ∨ (x ≠ 102 ∧ x ≠ 109 ∧ x ≠ 112 ∧ x ≠ 114) := by omega
  rcases hsw with hsw | hsw | hsw | hsw | hsw
  · skip
    refine r_look (off := 252) (tgt := 253) O ⟨by omega, by omega⟩ dX6_readsItem_1 (by decide) (by rw [hsw]; decide) (by decide) ?_
    have hmn : (manyT (atT tx ty (ap - 1))) = 1 := by unfold manyT; rw [if_neg (by omega), if_neg (by omega), if_pos (by omega)]
    have hqq0 : plT tx ty (manyT (atT tx ty (ap - 1))) (ap - 1) 0 = ap := by unfold plT; omega
    refine n_aload_n O dX6_readsItem_253 rfl ?_
    refine m_get_dr O hM fl_X6_16 dX6_readsItem_254 ?_
    refine r_iconst O dX6_readsItem_257 ?_
    refine n_aload_n O dX6_readsItem_258 rfl ?_
    refine r_iconst O dX6_readsItem_259 ?_
    refine r_bipush O (by decide +kernel) dX6_readsItem_260 ?_
    refine r_bipush O (by decide +kernel) dX6_readsItem_262 ?_
    refine r_callV3i O (N_X6_number hI hM _ _ _ _ _ _ _ _ _ _ _ _ _ _ _ _ ht ⟨by omega, by omega⟩ _ _ _ (by omega) (by omega) (by omega)) q_X6_69 (by rw [hM]; decide) (fs := _) rfl rfl rfl (by decide) (by decide) (Nat.le_of_ble_eq_true rfl) dX6_readsItem_264 (fun zz264 zu264 hz264 => ?_)
    obtain ⟨a264, hb264, hn264, rfl⟩ := hz264
    refine m_st_dr O hM (by omega) (by omega) dX6_readsItem_267 ?_
    refine n_aload_n O dX6_readsItem_268 rfl ?_
    refine m_get_dr O hM fl_X6_16 dX6_readsItem_269 ?_
    refine r_iconst O dX6_readsItem_272 ?_
    refine m_ld_dr O hM (by omega) (by omega) dX6_readsItem_273 ?_
    refine G_st (st' := .int (iI zz264) :: _) (by rw [uI_s]) ?_
    refine r_if_le (tgt := 281) O ⟨by omega, by omega⟩ dX6_readsItem_274 (by decide) (fun hc274 => ?_) (fun hc274 => ?_)
    · skip
      have hno : ¬ itP tx ty (ap - 1) (qn v) := it_no (lo := 1) (hi := 20) (e := 59) hqq0 (by omega) (by rw [hmn]; rfl) (by rcases hn264 with h | h; (have h9 := h.2.1.2.2; exfalso; omega); exact h.2) (fun h => by rcases h with ⟨hx2, _⟩ | ⟨hx2, _⟩ | ⟨_, hk⟩; (exfalso; omega); (exfalso; omega); exact hk)
      refine r_iconst O dX6_readsItem_281 ?_
      exact hE _ _ _ _ dX6_readsItem_282 (nar01 (by omega)) (by first | exact Or.inr ⟨hno, rfl, _, _, _, rfl⟩ | exact Or.inl ⟨⟨by omega, by rw [endI_e hmn hqq1]; omega, by rw [hnu0]; exact Or.inr (Or.inr ⟨by omega, by have := hs264.1.2.2; omega, by have := hs264.1.2.2; omega⟩)⟩, rfl, _, _, by rw [hnu0]; unfold tV; rw [if_neg (by omega), if_neg (by omega), if_neg (by omega)]; exact mR_fa hd _, hz, by rw [endI_e hmn hqq1]⟩)
    · skip
      have hs264 : numP tx ty ap 1 20 59 ∧ zz264 = valT tx ty ap ∧ a264 = ap + figsT tx ty ap + 1 := by rcases hn264 with h | h; exact h.2; (exfalso; omega)
      have hq264 : plT tx ty (manyT (atT tx ty (ap - 1))) (ap - 1) 1 = a264 := by rw [hs264.2.2]; exact plT_suc hqq0 (by omega) hs264.1.1 (by rw [hmn]; exact hs264.1.2.1)
      have hqq1 := hq264
      have hnu0 : nuT tx ty (ap - 1) 0 = zz264 := by rw [nu_at hqq0]; exact hs264.2.1.symm
      refine r_iconst O dX6_readsItem_277 ?_
      refine r_goto (tgt := 282) O dX6_readsItem_278 (by decide) ?_
      exact hE _ _ _ _ dX6_readsItem_282 (nar01 (by omega)) (by first | exact Or.inr ⟨hno, rfl, _, _, _, rfl⟩ | exact Or.inl ⟨⟨by omega, by rw [endI_e hmn hqq1]; omega, by rw [hnu0]; exact Or.inr (Or.inr ⟨by omega, by have := hs264.1.2.2; omega, by have := hs264.1.2.2; omega⟩)⟩, rfl, _, _, by rw [hnu0]; unfold tV; rw [if_neg (by omega), if_neg (by omega), if_neg (by omega)]; exact mR_fa hd _, hz, by rw [endI_e hmn hqq1]⟩)
  · skip
    refine r_look (off := 43) (tgt := 44) O ⟨by omega, by omega⟩ dX6_readsItem_1 (by decide) (by rw [hsw]; decide) (by decide) ?_
    have hmn : (manyT (atT tx ty (ap - 1))) = 4 := by unfold manyT; rw [if_pos (by omega)]
    have hqq0 : plT tx ty (manyT (atT tx ty (ap - 1))) (ap - 1) 0 = ap := by unfold plT; omega
    refine n_aload_n O dX6_readsItem_44 rfl ?_
    refine r_iconst O dX6_readsItem_45 ?_
    refine r_iconst O dX6_readsItem_46 ?_
    refine r_bipush O (by decide +kernel) dX6_readsItem_47 ?_
    refine r_callV3i O (N_X6_number hI hM _ _ _ _ _ _ _ _ _ _ _ _ _ _ _ _ ht ⟨by omega, by omega⟩ _ _ _ (by omega) (by omega) (by omega)) q_X6_69 (by rw [hM]; decide) (fs := _) rfl rfl rfl (by decide) (by decide) (Nat.le_of_ble_eq_true rfl) dX6_readsItem_49 (fun zz49 zu49 hz49 => ?_)
    obtain ⟨a49, hb49, hn49, rfl⟩ := hz49
    refine n_istore_n O dX6_readsItem_52 (by decide) rfl ?_
    refine n_iload_n O dX6_readsItem_53 rfl ?_
    refine r_if_ge (tgt := 61) O ⟨by omega, by omega⟩ dX6_readsItem_54 (by decide) (fun hc54 => ?_) (fun hc54 => ?_)
    · skip
      have hs49 : numP tx ty ap 0 3 44 ∧ zz49 = valT tx ty ap ∧ a49 = ap + figsT tx ty ap + 1 := by rcases hn49 with h | h; exact h.2; (exfalso; omega)
      have hq49 : plT tx ty (manyT (atT tx ty (ap - 1))) (ap - 1) 1 = a49 := by rw [hs49.2.2]; exact plT_suc hqq0 (by omega) hs49.1.1 (by rw [hmn]; exact hs49.1.2.1)
      have hqq1 := hq49
      have hnu0 : nuT tx ty (ap - 1) 0 = zz49 := by rw [nu_at hqq0]; exact hs49.2.1.symm
      refine n_aload_n O dX6_readsItem_61 rfl ?_
      refine r_iconst O dX6_readsItem_62 ?_
      refine r_bipush O (by decide +kernel) dX6_readsItem_63 ?_
      refine r_bipush O (by decide +kernel) dX6_readsItem_65 ?_
      refine r_callV3i O (N_X6_number hI hM _ _ _ _ _ _ _ _ _ _ _ _ _ _ _ _ ht ⟨by omega, by omega⟩ _ _ _ (by omega) (by omega) (by omega)) q_X6_69 (by rw [hM]; decide) (fs := _) rfl rfl rfl (by decide) (by decide) (Nat.le_of_ble_eq_true rfl) dX6_readsItem_67 (fun zz67 zu67 hz67 => ?_)
      obtain ⟨a67, hb67, hn67, rfl⟩ := hz67
      refine n_istore_n O dX6_readsItem_70 (by decide) rfl ?_
      refine n_iload_n O dX6_readsItem_71 rfl ?_
      refine r_if_ge (tgt := 79) O ⟨by omega, by omega⟩ dX6_readsItem_72 (by decide) (fun hc72 => ?_) (fun hc72 => ?_)
      · skip
        have hs67 : numP tx ty a49 1 9 44 ∧ zz67 = valT tx ty a49 ∧ a67 = a49 + figsT tx ty a49 + 1 := by rcases hn67 with h | h; exact h.2; (exfalso; omega)
        have hq67 : plT tx ty (manyT (atT tx ty (ap - 1))) (ap - 1) 2 = a67 := by rw [hs67.2.2]; exact plT_suc hqq1 (by omega) hs67.1.1 (by rw [hmn]; exact hs67.1.2.1)
        have hqq2 := hq67
        have hnu1 : nuT tx ty (ap - 1) 1 = zz67 := by rw [nu_at hqq1]; exact hs67.2.1.symm
        refine n_aload_n O dX6_readsItem_79 rfl ?_
        refine r_iconst O dX6_readsItem_80 ?_
        refine r_bipush O (by decide +kernel) dX6_readsItem_81 ?_
        refine r_bipush O (by decide +kernel) dX6_readsItem_83 ?_
        refine r_callV3i O (N_X6_number hI hM _ _ _ _ _ _ _ _ _ _ _ _ _ _ _ _ ht ⟨by omega, by omega⟩ _ _ _ (by omega) (by omega) (by omega)) q_X6_69 (by rw [hM]; decide) (fs := _) rfl rfl rfl (by decide) (by decide) (Nat.le_of_ble_eq_true rfl) dX6_readsItem_85 (fun zz85 zu85 hz85 => ?_)
        obtain ⟨a85, hb85, hn85, rfl⟩ := hz85
        refine n_istore O dX6_readsItem_88 (by decide) rfl ?_
        refine n_iload O dX6_readsItem_90 rfl ?_
        refine r_if_ge (tgt := 99) O ⟨by omega, by omega⟩ dX6_readsItem_92 (by decide) (fun hc92 => ?_) (fun hc92 => ?_)
        · skip
          have hs85 : numP tx ty a67 0 60 44 ∧ zz85 = valT tx ty a67 ∧ a85 = a67 + figsT tx ty a67 + 1 := by rcases hn85 with h | h; exact h.2; (exfalso; omega)
          have hq85 : plT tx ty (manyT (atT tx ty (ap - 1))) (ap - 1) 3 = a85 := by rw [hs85.2.2]; exact plT_suc hqq2 (by omega) hs85.1.1 (by rw [hmn]; exact hs85.1.2.1)
          have hqq3 := hq85
          have hnu2 : nuT tx ty (ap - 1) 2 = zz85 := by rw [nu_at hqq2]; exact hs85.2.1.symm
          refine n_aload_n O dX6_readsItem_99 rfl ?_
          refine r_iconst O dX6_readsItem_100 ?_
          refine r_bipush O (by decide +kernel) dX6_readsItem_101 ?_
          refine r_bipush O (by decide +kernel) dX6_readsItem_103 ?_
          refine r_callV3i O (N_X6_number hI hM _ _ _ _ _ _ _ _ _ _ _ _ _ _ _ _ ht ⟨by omega, by omega⟩ _ _ _ (by omega) (by omega) (by omega)) q_X6_69 (by rw [hM]; decide) (fs := _) rfl rfl rfl (by decide) (by decide) (Nat.le_of_ble_eq_true rfl) dX6_readsItem_105 (fun zz105 zu105 hz105 => ?_)
          obtain ⟨a105, hb105, hn105, rfl⟩ := hz105
          refine n_istore O dX6_readsItem_108 (by decide) rfl ?_
          refine n_iload O dX6_readsItem_110 rfl ?_
          refine r_if_lt (tgt := 126) O ⟨by omega, by omega⟩ dX6_readsItem_112 (by decide) (fun hc112 => ?_) (fun hc112 => ?_)
          · skip
            have hno : ¬ itP tx ty (ap - 1) (qn v) := it_no (lo := 0) (hi := 9) (e := 59) hqq3 (by omega) (by rw [hmn]; rfl) (by rcases hn105 with h | h; (have h9 := h.2.1.2.2; exfalso; omega); exact h.2) (fun h => by rcases h with ⟨_, hk, _⟩ | ⟨hx2, _⟩ | ⟨hx2, _⟩; exact hk.2.2.2; (exfalso; omega); (exfalso; omega))
            refine r_iconst O dX6_readsItem_126 ?_
            exact hE _ _ _ _ dX6_readsItem_127 (nar01 (by omega)) (Or.inr ⟨hno, rfl, _, _, _, rfl⟩)
          · skip
            have hs105 : numP tx ty a85 0 9 59 ∧ zz105 = valT tx ty a85 ∧ a105 = a85 + figsT tx ty a85 + 1 := by rcases hn105 with h | h; exact h.2; (exfalso; omega)
            have hq105 : plT tx ty (manyT (atT tx ty (ap - 1))) (ap - 1) 4 = a105 := by rw [hs105.2.2]; exact plT_suc hqq3 (by omega) hs105.1.1 (by rw [hmn]; exact hs105.1.2.1)
            have hqq4 := hq105
            have hnu3 : nuT tx ty (ap - 1) 3 = zz105 := by rw [nu_at hqq3]; exact hs105.2.1.symm
            refine n_aload_n O dX6_readsItem_115 rfl ?_
            refine m_get_dr O hM fl_X6_16 dX6_readsItem_116 ?_
            refine r_iconst O dX6_readsItem_119 ?_
            refine m_ld_dr O hM (by omega) (by omega) dX6_readsItem_120 ?_
            refine r_bipush O (by decide +kernel) dX6_readsItem_121 ?_
            refine r_icmp_ne (tgt := 128) O ⟨by omega, by omega⟩ ⟨by omega, by omega⟩ dX6_readsItem_123 (by decide) (fun hc123 => ?_) (fun hc123 => ?_)
            · skip
              refine n_aload_n O dX6_readsItem_128 rfl ?_
              refine n_iload_n O dX6_readsItem_129 rfl ?_
              refine n_iload_n O dX6_readsItem_130 rfl ?_
              refine n_iload O dX6_readsItem_131 rfl ?_
              refine n_iload O dX6_readsItem_133 rfl ?_
              refine r_callV4v O (C_X6_memberOf hI hM _ _ _ _ _ _ _ _ _ _ _ _ _ _ _ _ v hv hd hz (by omega) _ _ _ _) q_X6_43 (by rw [hM]; decide) (fs := _) rfl rfl rfl (by decide) (by decide) (Nat.le_of_ble_eq_true rfl) dX6_readsItem_135 (fun zu135 hz135 => ?_)
              obtain ⟨d2, b2, hmr, hzr, rfl⟩ := hz135
              refine r_iconst O dX6_readsItem_138 ?_
              exact hE _ _ _ _ dX6_readsItem_139 (nar01 (by omega)) (Or.inl ⟨⟨by omega, by rw [endI_e hmn hqq4]; omega, by rw [hnu0, hnu1, hnu2, hnu3]; exact Or.inl ⟨by omega, ⟨⟨by have := hs49.1.2.2; omega, by have := hs49.1.2.2; omega⟩, ⟨by have := hs67.1.2.2; omega, by have := hs67.1.2.2; omega⟩, ⟨by have := hs85.1.2.2; omega, by have := hs85.1.2.2; omega⟩, ⟨by have := hs105.1.2.2; omega, by have := hs105.1.2.2; omega⟩⟩, by omega⟩⟩, rfl, d2, b2, by rw [hnu0, hnu1, hnu2, hnu3]; unfold tV; rw [if_pos (by omega)]; exact hmr, hzr, by rw [endI_e hmn hqq4]⟩)
            · skip
              have hno : ¬ itP tx ty (ap - 1) (qn v) := fun q => by rcases q.2.2 with ⟨_, _, h⟩ | ⟨h, _⟩ | ⟨h, _⟩ <;> omega
              refine r_iconst O dX6_readsItem_126 ?_
              exact hE _ _ _ _ dX6_readsItem_127 (nar01 (by omega)) (Or.inr ⟨hno, rfl, _, _, _, rfl⟩)
        · skip
          have hno : ¬ itP tx ty (ap - 1) (qn v) := it_no (lo := 0) (hi := 60) (e := 44) hqq2 (by omega) (by rw [hmn]; rfl) (by rcases hn85 with h | h; (have h9 := h.2.1.2.2; exfalso; omega); exact h.2) (fun h => by rcases h with ⟨_, hk, _⟩ | ⟨hx2, _⟩ | ⟨hx2, _⟩; exact hk.2.2.1; (exfalso; omega); (exfalso; omega))
          refine r_iconst O dX6_readsItem_95 ?_
          refine r_goto (tgt := 108) O dX6_readsItem_96 (by decide) ?_
          refine n_istore O dX6_readsItem_108 (by decide) rfl ?_
          refine n_iload O dX6_readsItem_110 rfl ?_
          refine r_if_lt (tgt := 126) O ⟨by omega, by omega⟩ dX6_readsItem_112 (by decide) (fun hc112 => ?_) (fun hc112 => ?_)
          · skip
            refine r_iconst O dX6_readsItem_126 ?_
            exact hE _ _ _ _ dX6_readsItem_127 (nar01 (by omega)) (Or.inr ⟨hno, rfl, _, _, _, rfl⟩)
          · skip
            exfalso; omega
      · skip
        have hno : ¬ itP tx ty (ap - 1) (qn v) := it_no (lo := 1) (hi := 9) (e := 44) hqq1 (by omega) (by rw [hmn]; rfl) (by rcases hn67 with h | h; (have h9 := h.2.1.2.2; exfalso; omega); exact h.2) (fun h => by rcases h with ⟨_, hk, _⟩ | ⟨hx2, _⟩ | ⟨hx2, _⟩; exact hk.2.1; (exfalso; omega); (exfalso; omega))
        refine r_iconst O dX6_readsItem_75 ?_
        refine r_goto (tgt := 88) O dX6_readsItem_76 (by decide) ?_
        refine n_istore O dX6_readsItem_88 (by decide) rfl ?_
        refine n_iload O dX6_readsItem_90 rfl ?_
        refine r_if_ge (tgt := 99) O ⟨by omega, by omega⟩ dX6_readsItem_92 (by decide) (fun hc92 => ?_) (fun hc92 => ?_)
        · skip
          exfalso; omega
        · skip
          refine r_iconst O dX6_readsItem_95 ?_
          refine r_goto (tgt := 108) O dX6_readsItem_96 (by decide) ?_
          refine n_istore O dX6_readsItem_108 (by decide) rfl ?_
          refine n_iload O dX6_readsItem_110 rfl ?_
          refine r_if_lt (tgt := 126) O ⟨by omega, by omega⟩ dX6_readsItem_112 (by decide) (fun hc112 => ?_) (fun hc112 => ?_)
          · skip
            refine r_iconst O dX6_readsItem_126 ?_
            exact hE _ _ _ _ dX6_readsItem_127 (nar01 (by omega)) (Or.inr ⟨hno, rfl, _, _, _, rfl⟩)
          · skip
            exfalso; omega
    · skip
      have hno : ¬ itP tx ty (ap - 1) (qn v) := it_no (lo := 0) (hi := 3) (e := 44) hqq0 (by omega) (by rw [hmn]; rfl) (by rcases hn49 with h | h; (have h9 := h.2.1.2.2; exfalso; omega); exact h.2) (fun h => by rcases h with ⟨_, hk, _⟩ | ⟨hx2, _⟩ | ⟨hx2, _⟩; exact hk.1; (exfalso; omega); (exfalso; omega))
      refine r_iconst O dX6_readsItem_57 ?_
      refine r_goto (tgt := 70) O dX6_readsItem_58 (by decide) ?_
      refine n_istore_n O dX6_readsItem_70 (by decide) rfl ?_
      refine n_iload_n O dX6_readsItem_71 rfl ?_
      refine r_if_ge (tgt := 79) O ⟨by omega, by omega⟩ dX6_readsItem_72 (by decide) (fun hc72 => ?_) (fun hc72 => ?_)
      · skip
        exfalso; omega
      · skip
        refine r_iconst O dX6_readsItem_75 ?_
        refine r_goto (tgt := 88) O dX6_readsItem_76 (by decide) ?_
        refine n_istore O dX6_readsItem_88 (by decide) rfl ?_
        refine n_iload O dX6_readsItem_90 rfl ?_
        refine r_if_ge (tgt := 99) O ⟨by omega, by omega⟩ dX6_readsItem_92 (by decide) (fun hc92 => ?_) (fun hc92 => ?_)
        · skip
          exfalso; omega
        · skip
          refine r_iconst O dX6_readsItem_95 ?_
          refine r_goto (tgt := 108) O dX6_readsItem_96 (by decide) ?_
          refine n_istore O dX6_readsItem_108 (by decide) rfl ?_
          refine n_iload O dX6_readsItem_110 rfl ?_
          refine r_if_lt (tgt := 126) O ⟨by omega, by omega⟩ dX6_readsItem_112 (by decide) (fun hc112 => ?_) (fun hc112 => ?_)
          · skip
            refine r_iconst O dX6_readsItem_126 ?_
            exact hE _ _ _ _ dX6_readsItem_127 (nar01 (by omega)) (Or.inr ⟨hno, rfl, _, _, _, rfl⟩)
          · skip
            exfalso; omega
  · skip
    refine r_look (off := 139) (tgt := 140) O ⟨by omega, by omega⟩ dX6_readsItem_1 (by decide) (by rw [hsw]; decide) (by decide) ?_
    have hmn : (manyT (atT tx ty (ap - 1))) = 3 := by unfold manyT; rw [if_neg (by omega), if_pos (by omega)]
    have hqq0 : plT tx ty (manyT (atT tx ty (ap - 1))) (ap - 1) 0 = ap := by unfold plT; omega
    refine n_aload_n O dX6_readsItem_140 rfl ?_
    refine r_iconst O dX6_readsItem_141 ?_
    refine r_bipush O (by decide +kernel) dX6_readsItem_142 ?_
    refine r_bipush O (by decide +kernel) dX6_readsItem_144 ?_
    refine r_callV3i O (N_X6_number hI hM _ _ _ _ _ _ _ _ _ _ _ _ _ _ _ _ ht ⟨by omega, by omega⟩ _ _ _ (by omega) (by omega) (by omega)) q_X6_69 (by rw [hM]; decide) (fs := _) rfl rfl rfl (by decide) (by decide) (Nat.le_of_ble_eq_true rfl) dX6_readsItem_146 (fun zz146 zu146 hz146 => ?_)
    obtain ⟨a146, hb146, hn146, rfl⟩ := hz146
    refine n_istore_n O dX6_readsItem_149 (by decide) rfl ?_
    refine n_iload_n O dX6_readsItem_150 rfl ?_
    refine r_if_ge (tgt := 158) O ⟨by omega, by omega⟩ dX6_readsItem_151 (by decide) (fun hc151 => ?_) (fun hc151 => ?_)
    · skip
      have hs146 : numP tx ty ap 0 99 44 ∧ zz146 = valT tx ty ap ∧ a146 = ap + figsT tx ty ap + 1 := by rcases hn146 with h | h; exact h.2; (exfalso; omega)
      have hq146 : plT tx ty (manyT (atT tx ty (ap - 1))) (ap - 1) 1 = a146 := by rw [hs146.2.2]; exact plT_suc hqq0 (by omega) hs146.1.1 (by rw [hmn]; exact hs146.1.2.1)
      have hqq1 := hq146
      have hnu0 : nuT tx ty (ap - 1) 0 = zz146 := by rw [nu_at hqq0]; exact hs146.2.1.symm
      refine n_aload_n O dX6_readsItem_158 rfl ?_
      refine r_iconst O dX6_readsItem_159 ?_
      refine r_bipush O (by decide +kernel) dX6_readsItem_160 ?_
      refine r_bipush O (by decide +kernel) dX6_readsItem_162 ?_
      refine r_callV3i O (N_X6_number hI hM _ _ _ _ _ _ _ _ _ _ _ _ _ _ _ _ ht ⟨by omega, by omega⟩ _ _ _ (by omega) (by omega) (by omega)) q_X6_69 (by rw [hM]; decide) (fs := _) rfl rfl rfl (by decide) (by decide) (Nat.le_of_ble_eq_true rfl) dX6_readsItem_164 (fun zz164 zu164 hz164 => ?_)
      obtain ⟨a164, hb164, hn164, rfl⟩ := hz164
      refine n_istore_n O dX6_readsItem_167 (by decide) rfl ?_
      refine n_iload_n O dX6_readsItem_168 rfl ?_
      refine r_if_ge (tgt := 176) O ⟨by omega, by omega⟩ dX6_readsItem_169 (by decide) (fun hc169 => ?_) (fun hc169 => ?_)
      · skip
        have hs164 : numP tx ty a146 0 9 44 ∧ zz164 = valT tx ty a146 ∧ a164 = a146 + figsT tx ty a146 + 1 := by rcases hn164 with h | h; exact h.2; (exfalso; omega)
        have hq164 : plT tx ty (manyT (atT tx ty (ap - 1))) (ap - 1) 2 = a164 := by rw [hs164.2.2]; exact plT_suc hqq1 (by omega) hs164.1.1 (by rw [hmn]; exact hs164.1.2.1)
        have hqq2 := hq164
        have hnu1 : nuT tx ty (ap - 1) 1 = zz164 := by rw [nu_at hqq1]; exact hs164.2.1.symm
        refine n_aload_n O dX6_readsItem_176 rfl ?_
        refine r_iconst O dX6_readsItem_177 ?_
        refine r_bipush O (by decide +kernel) dX6_readsItem_178 ?_
        refine r_bipush O (by decide +kernel) dX6_readsItem_180 ?_
        refine r_callV3i O (N_X6_number hI hM _ _ _ _ _ _ _ _ _ _ _ _ _ _ _ _ ht ⟨by omega, by omega⟩ _ _ _ (by omega) (by omega) (by omega)) q_X6_69 (by rw [hM]; decide) (fs := _) rfl rfl rfl (by decide) (by decide) (Nat.le_of_ble_eq_true rfl) dX6_readsItem_182 (fun zz182 zu182 hz182 => ?_)
        obtain ⟨a182, hb182, hn182, rfl⟩ := hz182
        refine n_istore O dX6_readsItem_185 (by decide) rfl ?_
        refine n_aload_n O dX6_readsItem_187 rfl ?_
        refine m_get_bg O hM fl_X6_19 dX6_readsItem_188 ?_
        refine r_bipush O (by decide +kernel) dX6_readsItem_191 ?_
        refine n_iload_n O dX6_readsItem_193 rfl ?_
        refine m_st_bg O hM (by omega) (by omega) dX6_readsItem_194 ?_
        refine n_aload_n O dX6_readsItem_195 rfl ?_
        refine m_get_bg O hM fl_X6_19 dX6_readsItem_196 ?_
        refine r_bipush O (by decide +kernel) dX6_readsItem_199 ?_
        refine n_iload_n O dX6_readsItem_201 rfl ?_
        refine m_st_bg O hM (by omega) (by omega) dX6_readsItem_202 ?_
        refine n_aload_n O dX6_readsItem_203 rfl ?_
        refine m_get_bg O hM fl_X6_19 dX6_readsItem_204 ?_
        refine r_bipush O (by decide +kernel) dX6_readsItem_207 ?_
        refine n_iload O dX6_readsItem_209 rfl ?_
        refine m_st_bg O hM (by omega) (by omega) dX6_readsItem_211 ?_
        refine n_iload O dX6_readsItem_212 rfl ?_
        refine r_if_lt (tgt := 221) O ⟨by omega, by omega⟩ dX6_readsItem_214 (by decide) (fun hc214 => ?_) (fun hc214 => ?_)
        · skip
          have hno : ¬ itP tx ty (ap - 1) (qn v) := it_no (lo := 0) (hi := 9) (e := 59) hqq2 (by omega) (by rw [hmn]; rfl) (by rcases hn182 with h | h; (have h9 := h.2.1.2.2; exfalso; omega); exact h.2) (fun h => by rcases h with ⟨hx2, _⟩ | ⟨_, hk⟩ | ⟨hx2, _⟩; (exfalso; omega); exact hk.2.2; (exfalso; omega))
          refine r_iconst O dX6_readsItem_221 ?_
          exact hE _ _ _ _ dX6_readsItem_222 (nar01 (by omega)) (by first | exact Or.inr ⟨hno, rfl, _, _, _, rfl⟩ | exact Or.inl ⟨⟨by omega, by rw [endI_e hmn hqq3]; omega, by rw [hnu0, hnu1, hnu2]; exact Or.inr (Or.inl ⟨by omega, ⟨by have := hs146.1.2.2; omega, by have := hs146.1.2.2; omega⟩, ⟨by have := hs164.1.2.2; omega, by have := hs164.1.2.2; omega⟩, ⟨by have := hs182.1.2.2; omega, by have := hs182.1.2.2; omega⟩⟩)⟩, rfl, _, _, by rw [hnu0, hnu1, hnu2]; unfold tV; rw [if_neg (by omega), if_pos (by omega)]; exact mR_pot hd (by omega) _ _ _, zR_pot hz _ _ _, by rw [endI_e hmn hqq3]⟩)
        · skip
          have hs182 : numP tx ty a164 0 9 59 ∧ zz182 = valT tx ty a164 ∧ a182 = a164 + figsT tx ty a164 + 1 := by rcases hn182 with h | h; exact h.2; (exfalso; omega)
          have hq182 : plT tx ty (manyT (atT tx ty (ap - 1))) (ap - 1) 3 = a182 := by rw [hs182.2.2]; exact plT_suc hqq2 (by omega) hs182.1.1 (by rw [hmn]; exact hs182.1.2.1)
          have hqq3 := hq182
          have hnu2 : nuT tx ty (ap - 1) 2 = zz182 := by rw [nu_at hqq2]; exact hs182.2.1.symm
          refine r_iconst O dX6_readsItem_217 ?_
          refine r_goto (tgt := 222) O dX6_readsItem_218 (by decide) ?_
          exact hE _ _ _ _ dX6_readsItem_222 (nar01 (by omega)) (by first | exact Or.inr ⟨hno, rfl, _, _, _, rfl⟩ | exact Or.inl ⟨⟨by omega, by rw [endI_e hmn hqq3]; omega, by rw [hnu0, hnu1, hnu2]; exact Or.inr (Or.inl ⟨by omega, ⟨by have := hs146.1.2.2; omega, by have := hs146.1.2.2; omega⟩, ⟨by have := hs164.1.2.2; omega, by have := hs164.1.2.2; omega⟩, ⟨by have := hs182.1.2.2; omega, by have := hs182.1.2.2; omega⟩⟩)⟩, rfl, _, _, by rw [hnu0, hnu1, hnu2]; unfold tV; rw [if_neg (by omega), if_pos (by omega)]; exact mR_pot hd (by omega) _ _ _, zR_pot hz _ _ _, by rw [endI_e hmn hqq3]⟩)
      · skip
        have hno : ¬ itP tx ty (ap - 1) (qn v) := it_no (lo := 0) (hi := 9) (e := 44) hqq1 (by omega) (by rw [hmn]; rfl) (by rcases hn164 with h | h; (have h9 := h.2.1.2.2; exfalso; omega); exact h.2) (fun h => by rcases h with ⟨hx2, _⟩ | ⟨_, hk⟩ | ⟨hx2, _⟩; (exfalso; omega); exact hk.2.1; (exfalso; omega))
        refine r_iconst O dX6_readsItem_172 ?_
        refine r_goto (tgt := 185) O dX6_readsItem_173 (by decide) ?_
        refine n_istore O dX6_readsItem_185 (by decide) rfl ?_
        refine n_aload_n O dX6_readsItem_187 rfl ?_
        refine m_get_bg O hM fl_X6_19 dX6_readsItem_188 ?_
        refine r_bipush O (by decide +kernel) dX6_readsItem_191 ?_
        refine n_iload_n O dX6_readsItem_193 rfl ?_
        refine m_st_bg O hM (by omega) (by omega) dX6_readsItem_194 ?_
        refine n_aload_n O dX6_readsItem_195 rfl ?_
        refine m_get_bg O hM fl_X6_19 dX6_readsItem_196 ?_
        refine r_bipush O (by decide +kernel) dX6_readsItem_199 ?_
        refine n_iload_n O dX6_readsItem_201 rfl ?_
        refine m_st_bg O hM (by omega) (by omega) dX6_readsItem_202 ?_
        refine n_aload_n O dX6_readsItem_203 rfl ?_
        refine m_get_bg O hM fl_X6_19 dX6_readsItem_204 ?_
        refine r_bipush O (by decide +kernel) dX6_readsItem_207 ?_
        refine n_iload O dX6_readsItem_209 rfl ?_
        refine m_st_bg O hM (by omega) (by omega) dX6_readsItem_211 ?_
        refine n_iload O dX6_readsItem_212 rfl ?_
        refine r_if_lt (tgt := 221) O ⟨by omega, by omega⟩ dX6_readsItem_214 (by decide) (fun hc214 => ?_) (fun hc214 => ?_)
        · skip
          refine r_iconst O dX6_readsItem_221 ?_
          exact hE _ _ _ _ dX6_readsItem_222 (nar01 (by omega)) (by first | exact Or.inr ⟨hno, rfl, _, _, _, rfl⟩ | exact Or.inl ⟨⟨by omega, by rw [endI_e hmn hqq3]; omega, by rw [hnu0, hnu1, hnu2]; exact Or.inr (Or.inl ⟨by omega, ⟨by have := hs146.1.2.2; omega, by have := hs146.1.2.2; omega⟩, ⟨by have := hs164.1.2.2; omega, by have := hs164.1.2.2; omega⟩, ⟨by have := hs182.1.2.2; omega, by have := hs182.1.2.2; omega⟩⟩)⟩, rfl, _, _, by rw [hnu0, hnu1, hnu2]; unfold tV; rw [if_neg (by omega), if_pos (by omega)]; exact mR_pot hd (by omega) _ _ _, zR_pot hz _ _ _, by rw [endI_e hmn hqq3]⟩)
        · skip
          exfalso; omega
    · skip
      have hno : ¬ itP tx ty (ap - 1) (qn v) := it_no (lo := 0) (hi := 99) (e := 44) hqq0 (by omega) (by rw [hmn]; rfl) (by rcases hn146 with h | h; (have h9 := h.2.1.2.2; exfalso; omega); exact h.2) (fun h => by rcases h with ⟨hx2, _⟩ | ⟨_, hk⟩ | ⟨hx2, _⟩; (exfalso; omega); exact hk.1; (exfalso; omega))
      refine r_iconst O dX6_readsItem_154 ?_
      refine r_goto (tgt := 167) O dX6_readsItem_155 (by decide) ?_
      refine n_istore_n O dX6_readsItem_167 (by decide) rfl ?_
      refine n_iload_n O dX6_readsItem_168 rfl ?_
      refine r_if_ge (tgt := 176) O ⟨by omega, by omega⟩ dX6_readsItem_169 (by decide) (fun hc169 => ?_) (fun hc169 => ?_)
      · skip
        exfalso; omega
      · skip
        refine r_iconst O dX6_readsItem_172 ?_
        refine r_goto (tgt := 185) O dX6_readsItem_173 (by decide) ?_
        refine n_istore O dX6_readsItem_185 (by decide) rfl ?_
        refine n_aload_n O dX6_readsItem_187 rfl ?_
        refine m_get_bg O hM fl_X6_19 dX6_readsItem_188 ?_
        refine r_bipush O (by decide +kernel) dX6_readsItem_191 ?_
        refine n_iload_n O dX6_readsItem_193 rfl ?_
        refine m_st_bg O hM (by omega) (by omega) dX6_readsItem_194 ?_
        refine n_aload_n O dX6_readsItem_195 rfl ?_
        refine m_get_bg O hM fl_X6_19 dX6_readsItem_196 ?_
        refine r_bipush O (by decide +kernel) dX6_readsItem_199 ?_
        refine n_iload_n O dX6_readsItem_201 rfl ?_
        refine m_st_bg O hM (by omega) (by omega) dX6_readsItem_202 ?_
        refine n_aload_n O dX6_readsItem_203 rfl ?_
        refine m_get_bg O hM fl_X6_19 dX6_readsItem_204 ?_
        refine r_bipush O (by decide +kernel) dX6_readsItem_207 ?_
        refine n_iload O dX6_readsItem_209 rfl ?_
        refine m_st_bg O hM (by omega) (by omega) dX6_readsItem_211 ?_
        refine n_iload O dX6_readsItem_212 rfl ?_
        refine r_if_lt (tgt := 221) O ⟨by omega, by omega⟩ dX6_readsItem_214 (by decide) (fun hc214 => ?_) (fun hc214 => ?_)
        · skip
          refine r_iconst O dX6_readsItem_221 ?_
          exact hE _ _ _ _ dX6_readsItem_222 (nar01 (by omega)) (by first | exact Or.inr ⟨hno, rfl, _, _, _, rfl⟩ | exact Or.inl ⟨⟨by omega, by rw [endI_e hmn hqq3]; omega, by rw [hnu0, hnu1, hnu2]; exact Or.inr (Or.inl ⟨by omega, ⟨by have := hs146.1.2.2; omega, by have := hs146.1.2.2; omega⟩, ⟨by have := hs164.1.2.2; omega, by have := hs164.1.2.2; omega⟩, ⟨by have := hs182.1.2.2; omega, by have := hs182.1.2.2; omega⟩⟩)⟩, rfl, _, _, by rw [hnu0, hnu1, hnu2]; unfold tV; rw [if_neg (by omega), if_pos (by omega)]; exact mR_pot hd (by omega) _ _ _, zR_pot hz _ _ _, by rw [endI_e hmn hqq3]⟩)
        · skip
          exfalso; omega
  · skip
    refine r_look (off := 222) (tgt := 223) O ⟨by omega, by omega⟩ dX6_readsItem_1 (by decide) (by rw [hsw]; decide) (by decide) ?_
    have hmn : (manyT (atT tx ty (ap - 1))) = 1 := by unfold manyT; rw [if_neg (by omega), if_neg (by omega), if_pos (by omega)]
    have hqq0 : plT tx ty (manyT (atT tx ty (ap - 1))) (ap - 1) 0 = ap := by unfold plT; omega
    refine n_aload_n O dX6_readsItem_223 rfl ?_
    refine m_get_dr O hM fl_X6_16 dX6_readsItem_224 ?_
    refine r_iconst O dX6_readsItem_227 ?_
    refine n_aload_n O dX6_readsItem_228 rfl ?_
    refine r_iconst O dX6_readsItem_229 ?_
    refine r_bipush O (by decide +kernel) dX6_readsItem_230 ?_
    refine r_bipush O (by decide +kernel) dX6_readsItem_232 ?_
    refine r_callV3i O (N_X6_number hI hM _ _ _ _ _ _ _ _ _ _ _ _ _ _ _ _ ht ⟨by omega, by omega⟩ _ _ _ (by omega) (by omega) (by omega)) q_X6_69 (by rw [hM]; decide) (fs := _) rfl rfl rfl (by decide) (by decide) (Nat.le_of_ble_eq_true rfl) dX6_readsItem_234 (fun zz234 zu234 hz234 => ?_)
    obtain ⟨a234, hb234, hn234, rfl⟩ := hz234
    refine m_st_dr O hM (by omega) (by omega) dX6_readsItem_237 ?_
    refine n_aload_n O dX6_readsItem_238 rfl ?_
    refine m_get_dr O hM fl_X6_16 dX6_readsItem_239 ?_
    refine r_iconst O dX6_readsItem_242 ?_
    refine m_ld_dr O hM (by omega) (by omega) dX6_readsItem_243 ?_
    refine G_st (st' := .int (iI zz234) :: _) (by rw [uI_s]) ?_
    refine r_if_le (tgt := 251) O ⟨by omega, by omega⟩ dX6_readsItem_244 (by decide) (fun hc244 => ?_) (fun hc244 => ?_)
    · skip
      have hno : ¬ itP tx ty (ap - 1) (qn v) := it_no (lo := 1) (hi := 20) (e := 59) hqq0 (by omega) (by rw [hmn]; rfl) (by rcases hn234 with h | h; (have h9 := h.2.1.2.2; exfalso; omega); exact h.2) (fun h => by rcases h with ⟨hx2, _⟩ | ⟨hx2, _⟩ | ⟨_, hk⟩; (exfalso; omega); (exfalso; omega); exact hk)
      refine r_iconst O dX6_readsItem_251 ?_
      exact hE _ _ _ _ dX6_readsItem_252 (nar01 (by omega)) (by first | exact Or.inr ⟨hno, rfl, _, _, _, rfl⟩ | exact Or.inl ⟨⟨by omega, by rw [endI_e hmn hqq1]; omega, by rw [hnu0]; exact Or.inr (Or.inr ⟨by omega, by have := hs234.1.2.2; omega, by have := hs234.1.2.2; omega⟩)⟩, rfl, _, _, by rw [hnu0]; unfold tV; rw [if_neg (by omega), if_neg (by omega), if_pos (by omega)]; exact mR_ro hd _, hz, by rw [endI_e hmn hqq1]⟩)
    · skip
      have hs234 : numP tx ty ap 1 20 59 ∧ zz234 = valT tx ty ap ∧ a234 = ap + figsT tx ty ap + 1 := by rcases hn234 with h | h; exact h.2; (exfalso; omega)
      have hq234 : plT tx ty (manyT (atT tx ty (ap - 1))) (ap - 1) 1 = a234 := by rw [hs234.2.2]; exact plT_suc hqq0 (by omega) hs234.1.1 (by rw [hmn]; exact hs234.1.2.1)
      have hqq1 := hq234
      have hnu0 : nuT tx ty (ap - 1) 0 = zz234 := by rw [nu_at hqq0]; exact hs234.2.1.symm
      refine r_iconst O dX6_readsItem_247 ?_
      refine r_goto (tgt := 252) O dX6_readsItem_248 (by decide) ?_
      exact hE _ _ _ _ dX6_readsItem_252 (nar01 (by omega)) (by first | exact Or.inr ⟨hno, rfl, _, _, _, rfl⟩ | exact Or.inl ⟨⟨by omega, by rw [endI_e hmn hqq1]; omega, by rw [hnu0]; exact Or.inr (Or.inr ⟨by omega, by have := hs234.1.2.2; omega, by have := hs234.1.2.2; omega⟩)⟩, rfl, _, _, by rw [hnu0]; unfold tV; rw [if_neg (by omega), if_neg (by omega), if_pos (by omega)]; exact mR_ro hd _, hz, by rw [endI_e hmn hqq1]⟩)
  · skip
    refine r_look (off := 282) (tgt := 283) O ⟨by omega, by omega⟩ dX6_readsItem_1 (by decide) (by simp only [Op.lookupswitch.offset]; repeat rw [if_neg (by omega)]) (by decide) ?_
    refine r_iconst O dX6_readsItem_283 ?_
    exact hE _ _ _ _ dX6_readsItem_284 (nar01 (by omega)) (Or.inr ⟨fun q => by rcases q.2.2 with ⟨h, _⟩ | ⟨h, _⟩ | ⟨h, _⟩ <;> omega, rfl, _, _, _, rfl⟩)
set_option maxHeartbeats 4000000 in
theorem C_X6_readsAll {K : zK} (hI : zInj K) (hM : kN K = 11) (tx : Int → Int) (ty : Int) (td dr bg ss pa : Int → Int) (kn : Int) (im : Int → Int) (kp : Int) (ns : Int → Int) (nd ap la : Int) (hh tt : Int → Int) (ht : okT tx ty) (w0 : SV) : zCi K yX6_readsAll cX6_readsAll 2 (some .int) 4 [.ref (kad K 0)] (layM K tx ty td dr bg ss pa kn im kp ns nd ap la hh tt) (fun z u => ∃ (w : SV) (d2 b2 : Int → Int) (a2 : Int), faultP tx ty w0 z w ∧ (z = -4 → mR d2 b2 w) ∧ u = (layM K tx ty td d2 b2 ss pa kn im kp ns nd a2 la hh tt)) := by
  have hty := ht.1
  refine zCi_in hI (by decide +kernel) (Nat.le_of_ble_eq_true rfl) (fun X O hE => ?_)
  refine n_aload_n O dX6_readsAll_0 rfl ?_
  refine r_callV0v O (C_X6_begins hI hM _ _ _ _ _ _ _ _ _ _ _ _ _ _ _ _ ) q_X6_40 (by rw [hM]; decide) (fs := _) rfl rfl rfl (by decide) (by decide) (Nat.le_of_ble_eq_true rfl) dX6_readsAll_1 (fun zu1 hz1 => ?_)
  obtain ⟨d1, b1, hm1, hz1, rfl⟩ := hz1
  refine n_aload_n O dX6_readsAll_4 rfl ?_
  refine r_iconst O dX6_readsAll_5 ?_
  refine m_put_ap O hM fl_X6_58 dX6_readsAll_6 ?_
  have L9 : ∀ (zk : Nat) (k : Nat) (p : Int) (v : SV) (d3 b3 : Int → Int), (stT tx ty w0 k = (p, v) ∧ mR d3 b3 v ∧ zR b3 ∧ (∀ m : Nat, m < k → okI tx ty (stT tx ty w0 m).1 (qn (stT tx ty w0 m).2)) ∧ 0 ≤ p ∧ p ≤ ty) → (ty - p).toNat = zk → G K X 2 9 [(0, .ref (kad K 0))] [] (layM K tx ty td d3 b3 ss pa kn im kp ns nd p la hh tt) := by
    intro zk
    induction zk using Nat.strongRecOn with
    | ind zk ih9 =>
      intro k p v d3 b3 hinv hk
      obtain ⟨hq, hmd, hzb, hok, hp0, hpl⟩ := hinv
      have hvq : okV v := by have := okV_stT hok; rw [hq] at this; exact this
      refine n_aload_n O dX6_readsAll_9 rfl ?_
      refine m_get_ap O hM fl_X6_58 dX6_readsAll_10 ?_
      refine n_aload_n O dX6_readsAll_13 rfl ?_
      refine m_get_ty O hM fl_X6_54 dX6_readsAll_14 ?_
      refine r_icmp_ge (tgt := 53) O ⟨by omega, by omega⟩ ⟨by omega, by omega⟩ dX6_readsAll_17 (by decide) (fun hc17 => ?_) (fun hc17 => ?_)
      · skip
        refine r_bipush O (by decide +kernel) dX6_readsAll_53 ?_
        exact hE _ _ _ _ dX6_readsAll_55 rfl ⟨v, d3, b3, p, ⟨k, hok, Or.inl ⟨by rw [hq]; show ¬ p < ty; omega, rfl, by rw [hq]⟩⟩, fun _ => hmd, rfl⟩
      · skip
        refine n_aload_n O dX6_readsAll_20 rfl ?_
        refine m_get_ap O hM fl_X6_58 dX6_readsAll_21 ?_
        refine n_istore_n O dX6_readsAll_24 (by decide) rfl ?_
        refine n_aload_n O dX6_readsAll_25 rfl ?_
        refine r_dup O rfl dX6_readsAll_26 ?_
        refine m_get_ap O hM fl_X6_58 dX6_readsAll_27 ?_
        refine r_iconst O dX6_readsAll_30 ?_
        refine r_iadd O dX6_readsAll_31 ?_
        refine m_put_ap O hM fl_X6_58 dX6_readsAll_32 ?_
        refine n_aload_n O dX6_readsAll_35 rfl ?_
        refine n_aload_n O dX6_readsAll_36 rfl ?_
        refine m_get_tx O hM fl_X6_7 dX6_readsAll_37 ?_
        refine n_iload_n O dX6_readsAll_40 rfl ?_
        refine m_ld_tx O hM (by omega) (by omega) dX6_readsAll_41 ?_
        refine r_callV1i O (C_X6_readsItem hI hM _ _ _ _ _ _ _ _ _ _ _ _ _ _ _ _ v hvq hmd hzb ht ⟨by omega, by omega⟩ _ (by show tx p = atT tx ty (p + 1 - 1); (have e9 : p + 1 - 1 = p := by omega); rw [e9]; unfold atT; rw [if_pos ⟨by omega, by omega⟩])) q_X6_73 (by rw [hM]; decide) (fs := _) rfl rfl rfl (by decide) (by decide) (Nat.le_of_ble_eq_true rfl) dX6_readsAll_42 (fun zz42 zu42 hz42 => ?_)
        have e9 : p + 1 - 1 = p := by omega
        rw [e9] at hz42
        have hz01 : zz42 = 0 ∨ zz42 = 1 := by rcases hz42 with ⟨_, h, _⟩ | ⟨_, h, _⟩ <;> omega
        refine r_if_ne (tgt := 50) O ⟨by omega, by omega⟩ dX6_readsAll_45 (by decide) (fun hc45 => ?_) (fun hc45 => ?_)
        · skip
          refine r_goto (tgt := 9) O dX6_readsAll_50 (by decide) ?_
          have h42 : itP tx ty p (qn v) ∧ ∃ d2 b2 : Int → Int, mR d2 b2 (tV (tx p) v (nuT tx ty p 0) (nuT tx ty p 1) (nuT tx ty p 2) (nuT tx ty p 3)) ∧ zR b2 ∧ zu42 = (layM K tx ty td d2 b2 ss pa kn im kp ns nd (endI tx ty p) la hh tt) := by rcases hz42 with ⟨h1, _, h3⟩ | ⟨_, h2, _⟩; exact ⟨h1, h3⟩; (exfalso; omega)
          obtain ⟨hit, d4, b4, hmd4, hzb4, rfl⟩ := h42
          have hokk : okI tx ty (stT tx ty w0 k).1 (qn (stT tx ty w0 k).2) := by rw [hq]; exact ⟨by show p < ty; omega, hit⟩
          have hnx := okI_next (by omega) (by rw [hq]; show 0 ≤ p; omega) hokk
          rw [hq] at hnx
          have hnx2 : p + 3 ≤ endI tx ty p ∧ endI tx ty p ≤ ty := hnx
          have etx : tx p = atT tx ty p := by unfold atT; rw [if_pos ⟨by omega, by omega⟩]
          rw [etx] at hmd4
          exact G_chk (ih9 _ (by omega) (k + 1) (endI tx ty p) _ d4 b4 ⟨by show (endI tx ty (stT tx ty w0 k).1, tV (atT tx ty (stT tx ty w0 k).1) (stT tx ty w0 k).2 (nuT tx ty (stT tx ty w0 k).1 0) (nuT tx ty (stT tx ty w0 k).1 1) (nuT tx ty (stT tx ty w0 k).1 2) (nuT tx ty (stT tx ty w0 k).1 3)) = _; rw [hq], hmd4, hzb4, fun m hm => by rcases Nat.lt_or_ge m k with h | h; exact hok m h; (have e : m = k := by omega); rw [e]; exact hokk, by omega, by omega⟩ rfl) (zsc rfl zsn)
        · skip
          refine n_iload_n O dX6_readsAll_48 rfl ?_
          exact hE _ _ _ _ dX6_readsAll_49 rfl (by rcases hz42 with ⟨_, h2, _⟩ | ⟨h1, _, d4, b4, a4, h3⟩; (exfalso; omega); exact ⟨v, d4, b4, a4, ⟨k, hok, Or.inr ⟨by rw [hq]; show p < ty; omega, by rw [hq]; intro hh; exact h1 hh.2, by rw [hq]⟩⟩, fun h => by omega, h3⟩)
  exact G_chk (L9 _ 0 0 (clearV w0) d1 b1 ⟨rfl, hm1 w0, hz1, fun m hm => by omega, by omega, by omega⟩ rfl) (zsc rfl zsn)
set_option maxHeartbeats 4000000 in
theorem C_X6_fault {K : zK} (hI : zInj K) (hM : kN K = 11) (tx : Int → Int) (ty : Int) (td dr bg ss pa : Int → Int) (kn : Int) (im : Int → Int) (kp : Int) (ns : Int → Int) (nd ap la : Int) (hh tt : Int → Int) (ht : okT tx ty) (w0 : SV) : zCi K yX6_fault cX6_fault 1 (some .int) 5 [.ref (kad K 0)] (layM K tx ty td dr bg ss pa kn im kp ns nd ap la hh tt) (fun z u => ∃ (w : SV) (d2 b2 : Int → Int) (a2 : Int), faultP tx ty w0 z w ∧ u = (layM K tx ty td d2 b2 ss pa kn im kp ns nd a2 la hh tt)) := by
  refine zCi_in hI (by decide +kernel) (Nat.le_of_ble_eq_true rfl) (fun X O hE => ?_)
  refine n_aload_n O dX6_fault_0 rfl ?_
  refine r_callV0i O (C_X6_readsAll hI hM _ _ _ _ _ _ _ _ _ _ _ _ _ _ _ _ ht w0) q_X6_76 (by rw [hM]; decide) (fs := _) rfl rfl rfl (by decide) (by decide) (Nat.le_of_ble_eq_true rfl) dX6_fault_1 (fun zz1 zu1 hz1 => ?_)
  obtain ⟨w, d2, b2, a2, hf, _, rfl⟩ := hz1
  exact hE _ _ _ _ dX6_fault_4 rfl ⟨w, d2, b2, a2, hf, rfl⟩
set_option maxHeartbeats 4000000 in
theorem C_X6_lays {K : zK} (hI : zInj K) (hM : kN K = 11) (tx : Int → Int) (ty : Int) (td dr bg ss pa : Int → Int) (kn : Int) (im : Int → Int) (kp : Int) (ns : Int → Int) (nd ap la : Int) (hh tt : Int → Int)  : zCv K yX6_lays cX6_lays 2 0 [.ref (kad K 0)] (layM K tx ty td dr bg ss pa kn im kp ns nd ap la hh tt) (fun u => ∃ t2 s2 : Int → Int, (∀ y : Int, 0 ≤ y → y < 10 → t2 y = dr y) ∧ (∀ y : Int, 0 ≤ y → y < 31 → s2 y = bg y) ∧ u = (layM K tx ty t2 dr bg s2 pa 0 im 0 ns 0 ap la hh tt)) := by
  refine zCv_in hI (by decide +kernel) (Nat.le_of_ble_eq_true rfl) (fun X O hE => ?_)
  refine r_iconst O dX6_lays_0 ?_
  refine n_istore_n O dX6_lays_1 (by decide) rfl ?_
  have L2 : ∀ (zk : Nat) (i : Int) (t1 : Int → Int), ((0 ≤ i ∧ i ≤ 10) ∧ ∀ y : Int, 0 ≤ y → y < i → t1 y = dr y) → (10 - i).toNat = zk → G K X 2 2 [(0, .ref (kad K 0)), (1, .int (iI i))] [] (layM K tx ty t1 dr bg ss pa kn im kp ns nd ap la hh tt) := by
    intro zk
    induction zk using Nat.strongRecOn with
    | ind zk ih2 =>
      intro i t1 hinv hk
      obtain ⟨hi, hq⟩ := hinv
      refine n_iload_n O dX6_lays_2 rfl ?_
      refine r_bipush O (by decide +kernel) dX6_lays_3 ?_
      refine r_icmp_ge (tgt := 26) O ⟨by omega, by omega⟩ ⟨by omega, by omega⟩ dX6_lays_5 (by decide) (fun hc5 => ?_) (fun hc5 => ?_)
      · skip
        refine r_iconst O dX6_lays_26 ?_
        refine n_istore_n O dX6_lays_27 (by decide) rfl ?_
        have L28 : ∀ (zk : Nat) (k : Int) (s1 : Int → Int), ((0 ≤ k ∧ k ≤ 31) ∧ ∀ y : Int, 0 ≤ y → y < k → s1 y = bg y) → (31 - k).toNat = zk → G K X 2 28 [(0, .ref (kad K 0)), (1, .int (iI k))] [] (layM K tx ty t1 dr bg s1 pa kn im kp ns nd ap la hh tt) := by
          intro zk
          induction zk using Nat.strongRecOn with
          | ind zk ih28 =>
            intro k s1 hinv hk
            obtain ⟨hk, hq2⟩ := hinv
            refine n_iload_n O dX6_lays_28 rfl ?_
            refine r_bipush O (by decide +kernel) dX6_lays_29 ?_
            refine r_icmp_ge (tgt := 52) O ⟨by omega, by omega⟩ ⟨by omega, by omega⟩ dX6_lays_31 (by decide) (fun hc31 => ?_) (fun hc31 => ?_)
            · skip
              refine n_aload_n O dX6_lays_52 rfl ?_
              refine r_iconst O dX6_lays_53 ?_
              refine m_put_kn O hM fl_X6_80 dX6_lays_54 ?_
              refine n_aload_n O dX6_lays_57 rfl ?_
              refine r_iconst O dX6_lays_58 ?_
              refine m_put_kp O hM fl_X6_83 dX6_lays_59 ?_
              refine n_aload_n O dX6_lays_62 rfl ?_
              refine r_iconst O dX6_lays_63 ?_
              refine m_put_nd O hM fl_X6_86 dX6_lays_64 ?_
              exact hE _ _ _ dX6_lays_67 ⟨t1, s1, fun y h0 h1 => hq y h0 (by omega), fun y h0 h1 => hq2 y h0 (by omega), rfl⟩
            · skip
              refine n_aload_n O dX6_lays_34 rfl ?_
              refine m_get_ss O hM fl_X6_22 dX6_lays_35 ?_
              refine n_iload_n O dX6_lays_38 rfl ?_
              refine n_aload_n O dX6_lays_39 rfl ?_
              refine m_get_bg O hM fl_X6_19 dX6_lays_40 ?_
              refine n_iload_n O dX6_lays_43 rfl ?_
              refine m_ld_bg O hM (by omega) (by omega) dX6_lays_44 ?_
              refine m_st_ss O hM (by omega) (by omega) dX6_lays_45 ?_
              refine n_iinc O dX6_lays_46 (by decide) rfl rfl ?_
              refine r_goto (tgt := 28) O dX6_lays_49 (by decide) ?_
              exact G_chk (ih28 _ (by omega) (k + 1) _ ⟨by omega, fun y h0 h1 => by unfold uI; by_cases e : y = k; (rw [if_pos e, e]); (rw [if_neg e]; exact hq2 y h0 (by omega))⟩ rfl) (zsc rfl (zsc rfl zsn))
        exact G_chk (L28 _ 0 ss ⟨by omega, fun y h0 h1 => by omega⟩ rfl) (zsc rfl (zsc rfl zsn))
      · skip
        refine n_aload_n O dX6_lays_8 rfl ?_
        refine m_get_td O hM fl_X6_13 dX6_lays_9 ?_
        refine n_iload_n O dX6_lays_12 rfl ?_
        refine n_aload_n O dX6_lays_13 rfl ?_
        refine m_get_dr O hM fl_X6_16 dX6_lays_14 ?_
        refine n_iload_n O dX6_lays_17 rfl ?_
        refine m_ld_dr O hM (by omega) (by omega) dX6_lays_18 ?_
        refine m_st_td O hM (by omega) (by omega) dX6_lays_19 ?_
        refine n_iinc O dX6_lays_20 (by decide) rfl rfl ?_
        refine r_goto (tgt := 2) O dX6_lays_23 (by decide) ?_
        exact G_chk (ih2 _ (by omega) (i + 1) _ ⟨by omega, fun y h0 h1 => by unfold uI; by_cases e : y = i; (rw [if_pos e, e]); (rw [if_neg e]; exact hq y h0 (by omega))⟩ rfl) (zsc rfl (zsc rfl zsn))
  exact G_chk (L2 _ 0 td ⟨by omega, fun y h0 h1 => by omega⟩ rfl) (zsc rfl (zsc rfl zsn))
theorem mR_lay {dr bg t2 s2 : Int → Int} {v : SV} (h : mR dr bg v) (h7 : qn v ≤ 7) (ht : ∀ y : Int, 0 ≤ y → y < 10 → t2 y = dr y) (hs : ∀ y : Int, 0 ≤ y → y < 31 → s2 y = bg y) : mR t2 s2 v := by
  obtain ⟨a1, a2, a3, a4, a5, a6, hm⟩ := h
  refine ⟨(ht 0 (by decide) (by decide)).trans a1, (hs 28 (by decide) (by decide)).trans a2, (hs 29 (by decide) (by decide)).trans a3, (hs 30 (by decide) (by decide)).trans a4, (ht 1 (by decide) (by decide)).trans a5, (ht 2 (by decide) (by decide)).trans a6, fun i i0 i1 => ?_⟩
  obtain ⟨x1, x2, x3, x4, x5⟩ := hm i i0 i1
  exact ⟨(hs i i0 (by omega)).trans x1, (hs (7 + i) (by omega) (by omega)).trans x2, (hs (14 + i) (by omega) (by omega)).trans x3, (ht (3 + i) (by omega) (by omega)).trans x4, (hs (21 + i) (by omega) (by omega)).trans x5⟩
set_option maxHeartbeats 4000000 in
theorem C_X6_lay {K : zK} (hI : zInj K) (hM : kN K = 11) (tx : Int → Int) (ty : Int) (td dr bg ss pa : Int → Int) (kn : Int) (im : Int → Int) (kp : Int) (ns : Int → Int) (nd ap la : Int) (hh tt : Int → Int) (ht : okT tx ty) (w0 : SV) : zCi K yX6_lay cX6_lay 1 (some .int) 5 [.ref (kad K 0)] (layM K tx ty td dr bg ss pa kn im kp ns nd ap la hh tt) (fun z u => ∃ (w : SV) (y : Int) (d2 b2 : Int → Int) (a2 : Int), faultP tx ty w0 y w ∧ (((y = -4 ∧ qn w ≠ 0) ∧ z = qn w ∧ ∃ t2 s2 : Int → Int, mR t2 s2 w ∧ u = (layM K tx ty t2 d2 b2 s2 pa 0 im 0 ns 0 a2 la hh tt)) ∨ (¬ (y = -4 ∧ qn w ≠ 0) ∧ z = -2 ∧ u = (layM K tx ty td d2 b2 ss pa kn im kp ns nd a2 la hh tt)))) := by
  have hty := ht.1
  refine zCi_in hI (by decide +kernel) (Nat.le_of_ble_eq_true rfl) (fun X O hE => ?_)
  refine n_aload_n O dX6_lay_0 rfl ?_
  refine r_callV0i O (C_X6_readsAll hI hM _ _ _ _ _ _ _ _ _ _ _ _ _ _ _ _ ht w0) q_X6_76 (by rw [hM]; decide) (fs := _) rfl rfl rfl (by decide) (by decide) (Nat.le_of_ble_eq_true rfl) dX6_lay_1 (fun zz1 zu1 hz1 => ?_)
  obtain ⟨w, d2, b2, a2, hf, hmd, rfl⟩ := hz1
  have hfc := faultP_c hty.1 hf
  refine r_bipush O (by decide +kernel) dX6_lay_4 ?_
  refine r_icmp_ne (tgt := 18) O ⟨by omega, by omega⟩ ⟨by omega, by omega⟩ dX6_lay_6 (by decide) (fun hc6 => ?_) (fun hc6 => ?_)
  · skip
    refine r_bipush O (by decide +kernel) dX6_lay_18 ?_
    exact hE _ _ _ _ dX6_lay_20 rfl ⟨w, _, d2, b2, a2, hf, Or.inr ⟨by omega, rfl, rfl⟩⟩
  · skip
    have hwq : okV w := by rcases hfc with ⟨_, h⟩ | ⟨_, h, _⟩; exact h; (exfalso; omega)
    have hwn := hwq.1
    have hmw := hmd (by omega)
    have hr1 := hmw.1
    refine n_aload_n O dX6_lay_9 rfl ?_
    refine m_get_dr O hM fl_X6_16 dX6_lay_10 ?_
    refine r_iconst O dX6_lay_13 ?_
    refine m_ld_dr O hM (by omega) (by omega) dX6_lay_14 ?_
    refine r_if_ne (tgt := 21) O ⟨by omega, by omega⟩ dX6_lay_15 (by decide) (fun hc15 => ?_) (fun hc15 => ?_)
    · skip
      refine n_aload_n O dX6_lay_21 rfl ?_
      refine r_callV0v O (C_X6_lays hI hM _ _ _ _ _ _ _ _ _ _ _ _ _ _ _ _ ) q_X6_47 (by rw [hM]; decide) (fs := _) rfl rfl rfl (by decide) (by decide) (Nat.le_of_ble_eq_true rfl) dX6_lay_22 (fun zu22 hz22 => ?_)
      obtain ⟨t2, s2, ht2, hs2, rfl⟩ := hz22
      have hmr := mR_lay hmw (by omega) ht2 hs2
      refine n_aload_n O dX6_lay_25 rfl ?_
      refine m_get_td O hM fl_X6_13 dX6_lay_26 ?_
      refine r_iconst O dX6_lay_29 ?_
      refine m_ld_td O hM (by omega) (by omega) dX6_lay_30 ?_
      exact hE _ _ _ _ dX6_lay_31 rfl ⟨w, _, d2, b2, a2, hf, Or.inl ⟨by omega, hmr.1, t2, s2, hmr, rfl⟩⟩
    · skip
      refine r_bipush O (by decide +kernel) dX6_lay_18 ?_
      exact hE _ _ _ _ dX6_lay_20 rfl ⟨w, _, d2, b2, a2, hf, Or.inr ⟨by omega, rfl, rfl⟩⟩
set_option maxHeartbeats 4000000 in
theorem C_X6_wipe {K : zK} (hI : zInj K) (hM : kN K = 11) (tx : Int → Int) (ty : Int) (td dr bg ss pa : Int → Int) (kn : Int) (im : Int → Int) (kp : Int) (ns : Int → Int) (nd ap la : Int) (hh tt : Int → Int)  : zCi K yX6_wipe cX6_wipe 2 (some .int) 0 [.ref (kad K 0)] (layM K tx ty td dr bg ss pa kn im kp ns nd ap la hh tt) (fun z u => z = ty ∧ u = (layM K tx 0 td dr bg ss pa kn im kp ns nd ap la hh tt)) := by
  refine zCi_in hI (by decide +kernel) (Nat.le_of_ble_eq_true rfl) (fun X O hE => ?_)
  refine n_aload_n O dX6_wipe_0 rfl ?_
  refine m_get_ty O hM fl_X6_54 dX6_wipe_1 ?_
  refine n_istore_n O dX6_wipe_4 (by decide) rfl ?_
  refine n_aload_n O dX6_wipe_5 rfl ?_
  refine r_iconst O dX6_wipe_6 ?_
  refine m_put_ty O hM fl_X6_54 dX6_wipe_7 ?_
  refine n_iload_n O dX6_wipe_10 rfl ?_
  exact hE _ _ _ _ dX6_wipe_11 rfl ⟨rfl, rfl⟩
set_option maxHeartbeats 4000000 in
theorem C_X6_write {K : zK} (hI : zInj K) (hM : kN K = 11) (tx : Int → Int) (ty : Int) (td dr bg ss pa : Int → Int) (kn : Int) (im : Int → Int) (kp : Int) (ns : Int → Int) (nd ap la : Int) (hh tt : Int → Int) (ht : okT tx ty) (x : Int) (bx : zB x)  : zCi K yX6_write cX6_write 2 (some .int) 1 [.ref (kad K 0), .int (iI x)] (layM K tx ty td dr bg ss pa kn im kp ns nd ap la hh tt) (fun z u => ((x < 32 ∨ 126 < x) ∧ z = -1 ∧ u = (layM K tx ty td dr bg ss pa kn im kp ns nd ap la hh tt)) ∨ ((32 ≤ x ∧ x ≤ 126) ∧ ty < 200 ∧ z = ty + 1 ∧ u = (layM K (uI tx ty x) (ty + 1) td dr bg ss pa kn im kp ns nd ap la hh tt)) ∨ ((32 ≤ x ∧ x ≤ 126) ∧ ty = 200 ∧ z = -3 ∧ u = (layM K tx ty td dr bg ss pa kn im kp ns nd ap la hh tt))) := by
  have hty := ht.1
  obtain ⟨bx1, bx2⟩ := id bx
  refine zCi_in hI (by decide +kernel) (Nat.le_of_ble_eq_true rfl) (fun X O hE => ?_)
  refine n_iload_n O dX6_write_0 rfl ?_
  refine r_bipush O (by decide +kernel) dX6_write_1 ?_
  refine r_bipush O (by decide +kernel) dX6_write_3 ?_
  refine r_callS3i O (C_X6_in hI _ _ _ _ ⟨by omega, by omega⟩ ⟨by omega, by omega⟩ ⟨by omega, by omega⟩) q_X6_50 (by decide) (by decide) (Nat.le_of_ble_eq_true rfl) dX6_write_5 (fun zz5 zu5 hz5 => ?_)
  obtain ⟨hzi5, rfl⟩ := hz5
  have hic5 := inI_c hzi5
  refine r_if_ne (tgt := 13) O ⟨by omega, by omega⟩ dX6_write_8 (by decide) (fun hc8 => ?_) (fun hc8 => ?_)
  · skip
    refine n_aload_n O dX6_write_13 rfl ?_
    refine m_get_ty O hM fl_X6_54 dX6_write_14 ?_
    refine r_sipush O (by decide +kernel) dX6_write_17 ?_
    refine r_icmp_ne (tgt := 26) O ⟨by omega, by omega⟩ ⟨by omega, by omega⟩ dX6_write_20 (by decide) (fun hc20 => ?_) (fun hc20 => ?_)
    · skip
      refine n_aload_n O dX6_write_26 rfl ?_
      refine m_get_tx O hM fl_X6_7 dX6_write_27 ?_
      refine n_aload_n O dX6_write_30 rfl ?_
      refine m_get_ty O hM fl_X6_54 dX6_write_31 ?_
      refine n_iload_n O dX6_write_34 rfl ?_
      refine m_st_tx O hM (by omega) (by omega) dX6_write_35 ?_
      refine n_aload_n O dX6_write_36 rfl ?_
      refine r_dup O rfl dX6_write_37 ?_
      refine m_get_ty O hM fl_X6_54 dX6_write_38 ?_
      refine r_iconst O dX6_write_41 ?_
      refine r_iadd O dX6_write_42 ?_
      refine m_put_ty O hM fl_X6_54 dX6_write_43 ?_
      refine n_aload_n O dX6_write_46 rfl ?_
      refine m_get_ty O hM fl_X6_54 dX6_write_47 ?_
      exact hE _ _ _ _ dX6_write_50 rfl (Or.inr (Or.inl ⟨by omega, by omega, rfl, rfl⟩))
    · skip
      refine r_bipush O (by decide +kernel) dX6_write_23 ?_
      exact hE _ _ _ _ dX6_write_25 rfl (Or.inr (Or.inr ⟨by omega, by omega, rfl, rfl⟩))
  · skip
    refine r_iconst O dX6_write_11 ?_
    exact hE _ _ _ _ dX6_write_12 rfl (Or.inl ⟨by omega, rfl, rfl⟩)
