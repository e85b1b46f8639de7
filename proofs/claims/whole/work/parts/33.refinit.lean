def jsM0 (K : zK) (u : zE) : Prop := ∃ (tx td dr bg ss pa im ns hh tt : Int → Int), mR td ss (fiV jsZ) ∧ u = layM K tx 0 td dr bg ss pa 0 im 0 ns 0 0 0 hh tt
set_option maxHeartbeats 8000000 in
theorem I_X6_init {K : zK} (hI : zInj K) (h1 : kN K = 1) (ct : zE) (he : ct 0 = .inr (6, [.null, .int (iI 0), .null, .null, .null, .null, .null, .int (iI 0), .null, .int (iI 0), .null, .int (iI 0), .int (iI 0), .int (iI 0), .null, .null])) : zN K yX6_init cX6_init 1 1 10 660 [.ref (kad K 0)] ct (fun _ => True) (fun L u => L.length = 10 ∧ jsM0 (zx K L) u) := by
  refine zN_in hI (by decide +kernel) (Nat.le_of_ble_eq_true rfl) rfl (fun X O hnm hA _ hxc hxn hRc hRn hE => ?_)
  refine n_aload_n O dX6_init_0 rfl ?_
  refine r_objI O zoL_X6 zoI zoC (Nat.le_refl _) (by decide) dX6_init_1 ?_
  have ho : 0 < kN K := by omega
  have hW : jmW K ct 1 [none, some none, none, none, none, none, none, some none, none, some none, none, some none, some none, some none, none, none] [] := ⟨h1, he, fun b hb => absurd hb (by simp), rfl, fun j hj => absurd hj (Nat.not_lt_zero _)⟩
  have hK : K = K ∨ ∃ M, K = zx K M := Or.inl rfl
  refine G_cast rfl (zXg_0 X) ?_
  rw [zXg_0 X] at O
  refine jm_arr (n := 1) (fi := 0) (sz := 200) 3 hK O hnm hA rfl hW dX6_init_4 rfl (fun K2 X2 st c2 O9 k9 => r_sipush O9 (by decide +kernel) dX6_init_5 k9) dX6_init_8 dX6_init_10 (by decide) (by omega) (by omega) fl_X6_7 (by decide) rfl (by decide +kernel) rfl (fun K0 u0 hK0 ko0 hW0 O0 => ?_)
  refine jm_arr (n := 2) (fi := 2) (sz := 10) 2 (Or.inr hK0) O0 hnm hA ko0 hW0 dX6_init_13 rfl (fun K2 X2 st c2 O9 k9 => r_bipush O9 (by decide +kernel) dX6_init_14 k9) dX6_init_16 dX6_init_18 (by decide) (by omega) (by omega) fl_X6_13 (by decide) rfl (by decide +kernel) rfl (fun K1 u1 hK1 ko1 hW1 O1 => ?_)
  refine jm_arr (n := 3) (fi := 3) (sz := 10) 2 (Or.inr hK1) O1 hnm hA ko1 hW1 dX6_init_21 rfl (fun K2 X2 st c2 O9 k9 => r_bipush O9 (by decide +kernel) dX6_init_22 k9) dX6_init_24 dX6_init_26 (by decide) (by omega) (by omega) fl_X6_16 (by decide) rfl (by decide +kernel) rfl (fun K2 u2 hK2 ko2 hW2 O2 => ?_)
  refine jm_arr (n := 4) (fi := 4) (sz := 31) 2 (Or.inr hK2) O2 hnm hA ko2 hW2 dX6_init_29 rfl (fun K2 X2 st c2 O9 k9 => r_bipush O9 (by decide +kernel) dX6_init_30 k9) dX6_init_32 dX6_init_34 (by decide) (by omega) (by omega) fl_X6_19 (by decide) rfl (by decide +kernel) rfl (fun K3 u3 hK3 ko3 hW3 O3 => ?_)
  refine jm_arr (n := 5) (fi := 5) (sz := 31) 2 (Or.inr hK3) O3 hnm hA ko3 hW3 dX6_init_37 rfl (fun K2 X2 st c2 O9 k9 => r_bipush O9 (by decide +kernel) dX6_init_38 k9) dX6_init_40 dX6_init_42 (by decide) (by omega) (by omega) fl_X6_22 (by decide) rfl (by decide +kernel) rfl (fun K4 u4 hK4 ko4 hW4 O4 => ?_)
  refine jm_arr (n := 6) (fi := 6) (sz := 248) 3 (Or.inr hK4) O4 hnm hA ko4 hW4 dX6_init_45 rfl (fun K2 X2 st c2 O9 k9 => r_sipush O9 (by decide +kernel) dX6_init_46 k9) dX6_init_49 dX6_init_51 (by decide) (by omega) (by omega) fl_X6_25 (by decide) rfl (by decide +kernel) rfl (fun K5 u5 hK5 ko5 hW5 O5 => ?_)
  refine jm_arr (n := 7) (fi := 8) (sz := 62) 2 (Or.inr hK5) O5 hnm hA ko5 hW5 dX6_init_54 rfl (fun K2 X2 st c2 O9 k9 => r_bipush O9 (by decide +kernel) dX6_init_55 k9) dX6_init_57 dX6_init_59 (by decide) (by omega) (by omega) fl_X6_28 (by decide) rfl (by decide +kernel) rfl (fun K6 u6 hK6 ko6 hW6 O6 => ?_)
  refine jm_arr (n := 8) (fi := 10) (sz := 6) 2 (Or.inr hK6) O6 hnm hA ko6 hW6 dX6_init_62 rfl (fun K2 X2 st c2 O9 k9 => r_bipush O9 (by decide +kernel) dX6_init_63 k9) dX6_init_65 dX6_init_67 (by decide) (by omega) (by omega) fl_X6_31 (by decide) rfl (by decide +kernel) rfl (fun K7 u7 hK7 ko7 hW7 O7 => ?_)
  refine jm_arr (n := 9) (fi := 14) (sz := 31) 2 (Or.inr hK7) O7 hnm hA ko7 hW7 dX6_init_70 rfl (fun K2 X2 st c2 O9 k9 => r_bipush O9 (by decide +kernel) dX6_init_71 k9) dX6_init_73 dX6_init_75 (by decide) (by omega) (by omega) fl_X6_34 (by decide) rfl (by decide +kernel) rfl (fun K8 u8 hK8 ko8 hW8 O8 => ?_)
  refine jm_arr (n := 10) (fi := 15) (sz := 31) 2 (Or.inr hK8) O8 hnm hA ko8 hW8 dX6_init_78 rfl (fun K2 X2 st c2 O9 k9 => r_bipush O9 (by decide +kernel) dX6_init_79 k9) dX6_init_81 dX6_init_83 (by decide) (by omega) (by omega) fl_X6_37 (by decide) rfl (by decide +kernel) rfl (fun K9 u9 hK9 ko9 hW9 O9 => ?_)
  obtain ⟨w1, w2, -, -, w5⟩ := hW9
  have hN : kN K9 = 11 := w1
  refine G_eqN (ct' := (layM K9 (fun _ => 0) 0 (fun _ => 0) (fun _ => 0) (fun _ => 0) (fun _ => 0) (fun _ => 0) 0 (fun _ => 0) 0 (fun _ => 0) 0 0 0 (fun _ => 0) (fun _ => 0))) (fun k hk => ?_) ?_
  · have hk : k < 11 := by omega
    match k, hk with
    | 0, _ => exact w2
    | 1, _ => exact w5 0 (by decide)
    | 2, _ => exact w5 1 (by decide)
    | 3, _ => exact w5 2 (by decide)
    | 4, _ => exact w5 3 (by decide)
    | 5, _ => exact w5 4 (by decide)
    | 6, _ => exact w5 5 (by decide)
    | 7, _ => exact w5 6 (by decide)
    | 8, _ => exact w5 7 (by decide)
    | 9, _ => exact w5 8 (by decide)
    | 10, _ => exact w5 9 (by decide)
  have hko : kad K 0 = kad K9 0 := ko9.symm
  have hI2 := zO_I O9
  obtain ⟨M9, hM9⟩ := hK9
  have hL : M9.length = 10 := by
    have h9 := hN
    rw [hM9, kN_zx] at h9
    omega
  have eX : zXg X (0 + 1 + 1 + 1 + 1 + 1 + 1 + 1 + 1 + 1 + 1) (0 + 200 + 10 + 10 + 31 + 31 + 248 + 62 + 6 + 31 + 31) = zXg X 10 660 := rfl
  refine G_cast rfl eX ?_
  rw [eX] at O9
  generalize hXX : zXg X 10 660 = X2 at *
  clear hW hK w2 w5
  refine n_aload_n O9 dX6_init_86 rfl ?_
  rw [hko]
  refine r_callV0v O9 (C_X6_begins hI2 hN (fun _ => 0) 0 (fun _ => 0) (fun _ => 0) (fun _ => 0) (fun _ => 0) (fun _ => 0) 0 (fun _ => 0) 0 (fun _ => 0) 0 0 0 (fun _ => 0) (fun _ => 0)) q_X6_40 (by rw [hN]; decide) (fs := _) rfl rfl rfl (by decide) (by decide) (Nat.le_of_ble_eq_true rfl) dX6_init_87 (fun u hz => ?_)
  obtain ⟨d0, b0, m0, z0_, rfl⟩ := hz
  have v0 := okV_clearV jsZ
  refine n_aload_n O9 dX6_init_90 rfl ?_
  refine r_iconst O9 dX6_init_91 ?_
  refine r_iconst O9 dX6_init_92 ?_
  refine r_bipush O9 (by decide +kernel) dX6_init_93 ?_
  refine r_bipush O9 (by decide +kernel) dX6_init_95 ?_
  skip
  refine r_callV4v O9 (C_X6_memberOf hI2 hN (fun _ => 0) 0 (fun _ => 0) d0 b0 (fun _ => 0) (fun _ => 0) 0 (fun _ => 0) 0 (fun _ => 0) 0 0 0 (fun _ => 0) (fun _ => 0) (clearV jsZ) v0 (m0 jsZ) z0_ (by show (0 : Int) ≤ 6; decide) 0 3 12 6) q_X6_43 (by rw [hN]; decide) (fs := _) rfl rfl rfl (by decide) (by decide) (Nat.le_of_ble_eq_true rfl) dX6_init_97 (fun u hz => ?_)
  obtain ⟨d1, b1, m1, z1_, rfl⟩ := hz
  have v1 : okV (memV (clearV jsZ) 0 3 12 6) := by
    have h9 := okV_tV (x := 109) (a := 0) (b := 3) (d := 12) (e := 6) v0 (Or.inl ⟨rfl, by unfold okM; decide, by show (0 : Int) ≤ 6; decide⟩)
    rw [tV_m] at h9
    exact h9
  refine n_aload_n O9 dX6_init_100 rfl ?_
  refine r_iconst O9 dX6_init_101 ?_
  refine r_iconst O9 dX6_init_102 ?_
  refine r_bipush O9 (by decide +kernel) dX6_init_103 ?_
  refine r_iconst O9 dX6_init_105 ?_
  skip
  refine r_callV4v O9 (C_X6_memberOf hI2 hN (fun _ => 0) 0 (fun _ => 0) d1 b1 (fun _ => 0) (fun _ => 0) 0 (fun _ => 0) 0 (fun _ => 0) 0 0 0 (fun _ => 0) (fun _ => 0) (memV (clearV jsZ) 0 3 12 6) v1 m1 z1_ (by show (1 : Int) ≤ 6; decide) 1 4 20 3) q_X6_43 (by rw [hN]; decide) (fs := _) rfl rfl rfl (by decide) (by decide) (Nat.le_of_ble_eq_true rfl) dX6_init_106 (fun u hz => ?_)
  obtain ⟨d2, b2, m2, z2_, rfl⟩ := hz
  have v2 : okV (memV (memV (clearV jsZ) 0 3 12 6) 1 4 20 3) := by
    have h9 := okV_tV (x := 109) (a := 1) (b := 4) (d := 20) (e := 3) v1 (Or.inl ⟨rfl, by unfold okM; decide, by show (1 : Int) ≤ 6; decide⟩)
    rw [tV_m] at h9
    exact h9
  refine n_aload_n O9 dX6_init_109 rfl ?_
  refine r_iconst O9 dX6_init_110 ?_
  refine r_iconst O9 dX6_init_111 ?_
  refine r_bipush O9 (by decide +kernel) dX6_init_112 ?_
  refine r_iconst O9 dX6_init_114 ?_
  skip
  refine r_callV4v O9 (C_X6_memberOf hI2 hN (fun _ => 0) 0 (fun _ => 0) d2 b2 (fun _ => 0) (fun _ => 0) 0 (fun _ => 0) 0 (fun _ => 0) 0 0 0 (fun _ => 0) (fun _ => 0) (memV (memV (clearV jsZ) 0 3 12 6) 1 4 20 3) v2 m2 z2_ (by show (2 : Int) ≤ 6; decide) 2 2 9 5) q_X6_43 (by rw [hN]; decide) (fs := _) rfl rfl rfl (by decide) (by decide) (Nat.le_of_ble_eq_true rfl) dX6_init_115 (fun u hz => ?_)
  obtain ⟨d3, b3, m3, z3_, rfl⟩ := hz
  have v3 : okV (memV (memV (memV (clearV jsZ) 0 3 12 6) 1 4 20 3) 2 2 9 5) := by
    have h9 := okV_tV (x := 109) (a := 2) (b := 2) (d := 9) (e := 5) v2 (Or.inl ⟨rfl, by unfold okM; decide, by show (2 : Int) ≤ 6; decide⟩)
    rw [tV_m] at h9
    exact h9
  refine n_aload_n O9 dX6_init_118 rfl ?_
  refine r_iconst O9 dX6_init_119 ?_
  refine r_iconst O9 dX6_init_120 ?_
  refine r_bipush O9 (by decide +kernel) dX6_init_121 ?_
  refine r_bipush O9 (by decide +kernel) dX6_init_123 ?_
  skip
  refine r_callV4v O9 (C_X6_memberOf hI2 hN (fun _ => 0) 0 (fun _ => 0) d3 b3 (fun _ => 0) (fun _ => 0) 0 (fun _ => 0) 0 (fun _ => 0) 0 0 0 (fun _ => 0) (fun _ => 0) (memV (memV (memV (clearV jsZ) 0 3 12 6) 1 4 20 3) 2 2 9 5) v3 m3 z3_ (by show (3 : Int) ≤ 6; decide) 3 5 30 9) q_X6_43 (by rw [hN]; decide) (fs := _) rfl rfl rfl (by decide) (by decide) (Nat.le_of_ble_eq_true rfl) dX6_init_125 (fun u hz => ?_)
  obtain ⟨d4, b4, m4, z4_, rfl⟩ := hz
  have v4 : okV (memV (memV (memV (memV (clearV jsZ) 0 3 12 6) 1 4 20 3) 2 2 9 5) 3 5 30 9) := by
    have h9 := okV_tV (x := 109) (a := 3) (b := 5) (d := 30) (e := 9) v3 (Or.inl ⟨rfl, by unfold okM; decide, by show (3 : Int) ≤ 6; decide⟩)
    rw [tV_m] at h9
    exact h9
  refine n_aload_n O9 dX6_init_128 rfl ?_
  refine r_iconst O9 dX6_init_129 ?_
  refine r_iconst O9 dX6_init_130 ?_
  refine r_bipush O9 (by decide +kernel) dX6_init_131 ?_
  refine r_iconst O9 dX6_init_133 ?_
  skip
  refine r_callV4v O9 (C_X6_memberOf hI2 hN (fun _ => 0) 0 (fun _ => 0) d4 b4 (fun _ => 0) (fun _ => 0) 0 (fun _ => 0) 0 (fun _ => 0) 0 0 0 (fun _ => 0) (fun _ => 0) (memV (memV (memV (memV (clearV jsZ) 0 3 12 6) 1 4 20 3) 2 2 9 5) 3 5 30 9) v4 m4 z4_ (by show (4 : Int) ≤ 6; decide) 0 1 8 2) q_X6_43 (by rw [hN]; decide) (fs := _) rfl rfl rfl (by decide) (by decide) (Nat.le_of_ble_eq_true rfl) dX6_init_134 (fun u hz => ?_)
  obtain ⟨d5, b5, m5, z5_, rfl⟩ := hz
  have v5 : okV (memV (memV (memV (memV (memV (clearV jsZ) 0 3 12 6) 1 4 20 3) 2 2 9 5) 3 5 30 9) 0 1 8 2) := by
    have h9 := okV_tV (x := 109) (a := 0) (b := 1) (d := 8) (e := 2) v4 (Or.inl ⟨rfl, by unfold okM; decide, by show (4 : Int) ≤ 6; decide⟩)
    rw [tV_m] at h9
    exact h9
  refine n_aload_n O9 dX6_init_137 rfl ?_
  refine m_get_bg O9 hN fl_X6_19 dX6_init_138 ?_
  refine r_bipush O9 (by decide +kernel) dX6_init_141 ?_
  refine r_bipush O9 (by decide +kernel) dX6_init_143 ?_
  refine m_st_bg O9 hN (by decide) (by decide) dX6_init_145 ?_
  refine n_aload_n O9 dX6_init_146 rfl ?_
  refine m_get_bg O9 hN fl_X6_19 dX6_init_147 ?_
  refine r_bipush O9 (by decide +kernel) dX6_init_150 ?_
  refine r_bipush O9 (by decide +kernel) dX6_init_152 ?_
  refine m_st_bg O9 hN (by decide) (by decide) dX6_init_154 ?_
  refine n_aload_n O9 dX6_init_155 rfl ?_
  refine m_get_bg O9 hN fl_X6_19 dX6_init_156 ?_
  refine r_bipush O9 (by decide +kernel) dX6_init_159 ?_
  refine r_iconst O9 dX6_init_161 ?_
  refine m_st_bg O9 hN (by decide) (by decide) dX6_init_162 ?_
  refine n_aload_n O9 dX6_init_163 rfl ?_
  refine r_callV0v O9 (C_X6_lays hI2 hN (fun _ => 0) 0 (fun _ => 0) d5 (uI (uI (uI b5 28 40) 29 6) 30 2) (fun _ => 0) (fun _ => 0) 0 (fun _ => 0) 0 (fun _ => 0) 0 0 0 (fun _ => 0) (fun _ => 0)) q_X6_47 (by rw [hN]; decide) (fs := _) rfl rfl rfl (by decide) (by decide) (Nat.le_of_ble_eq_true rfl) dX6_init_164 (fun u hz => ?_)
  obtain ⟨t2, s2, e1, e2, rfl⟩ := hz
  have mf : mR t2 s2 (fiV jsZ) := mR_cp (mR_fi (mR_pot m5 (by decide) 40 6 2)) (by decide) (by decide) e1 e2
  subst hM9
  subst hXX
  exact hE _ _ M9 _ 10 660 (Nat.le_refl _) (Nat.le_refl _) dX6_init_167 ⟨hL, _, _, _, _, _, _, _, _, _, _, mf, rfl⟩ hI2
