set_option maxHeartbeats 8000000 in
theorem I_X5_init {K : zK} (hI : zInj K) (h1 : kN K = 1) (ct : zE) (he : ct 0 = .inr (5, [.null, .null, .null, .null, .null, .null, .null])) (aK aV : Nat) : zN K yX5_init cX5_init 2 5 84 798 [.ref (kad K 0)] ct (jsP5 K aK aV) (fun L u => L.length = 84 ∧ ∃ c : CS, okC c ∧ jsI c ∧ u = layC (zx K L) c) := by
  refine zN_in hI (by decide +kernel) (Nat.le_of_ble_eq_true rfl) rfl (fun X O hnm hA hP hxc hxn hRc hRn hE => ?_)
  refine n_aload_n O dX5_init_0 rfl ?_
  refine r_objI O zoL_X5 zoI zoC (by decide) (by decide) dX5_init_1 ?_
  have hW : jsW K ct 1 [none, none, none, none, none, none, none] [] := ⟨h1, he, fun b hb => absurd hb (by simp), fun x hx => absurd hx (List.not_mem_nil)⟩
  refine js_stage (n := 1) (ci := 4) (fi := 0) (mc := 2) (ms := 204) (g := jbT) (tf := .object RX4) [.null, .null, .int (iI 0)] O (by decide) hnm hA (by decide) rfl hW dX5_init_4 rfl dX5_init_5 dX5_init_8 dX5_init_9 dX5_init_12 zCl4 zcl_X5_7 zns_X4 zin_X4 tyX4_ok (by decide +kernel) (fun q hq => I_X4_init hq (kN K) (Nat.lt_succ_self _) _ (zup_s _ _ _)) (fun q L u h => jbT_of h) gOK_T hP.2.2.1 zi_X4_init zin_X4 zc_X4_init ⟨by decide +kernel, by decide +kernel, by decide +kernel⟩ rfl (by show xc X + 0 + 1 + 2 ≤ (xR X).cells; omega) (by show xn X + 0 + 3 + 204 ≤ (xR X).slots; omega) fl_X5_10 (by decide) rfl (by decide +kernel) (fun _ => rfl) (fun _ => rfl) rfl (fun M0 u0 ko0 hW0 O0 => ?_)
  refine js_stage (n := 4) (ci := 3) (fi := 1) (mc := 5) (ms := 35) (g := jsit) (tf := .object RX3) [.null, .null, .null, .null, .null, .int (iI 0), .int (iI 0), .int (iI 0), .int (iI 0), .int (iI 0), .int (iI 0)] O0 (by decide) hnm hA (by decide) ko0 hW0 dX5_init_15 rfl dX5_init_16 dX5_init_19 dX5_init_20 dX5_init_23 zCl3 zcl_X5_16 zns_X3 zin_X3 tyX3_ok (by decide +kernel) (fun q hq => I_X3_init hq (kN (zx K M0)) (Nat.lt_succ_self _) _ (zup_s _ _ _)) (fun q L u h => jbS_of h) gOK_S hP.2.2.2.1 zi_X3_init zin_X3 zc_X3_init ⟨by decide +kernel, by decide +kernel, by decide +kernel⟩ rfl (by show xc X + 3 + 1 + 5 ≤ (xR X).cells; omega) (by show xn X + 207 + 11 + 35 ≤ (xR X).slots; omega) fl_X5_19 (by decide) rfl (by decide +kernel) (fun _ => rfl) (fun _ => rfl) rfl (fun M1 u1 ko1 hW1 O1 => ?_)
  refine js_stage (n := 10) (ci := 3) (fi := 2) (mc := 5) (ms := 35) (g := jsit) (tf := .object RX3) [.null, .null, .null, .null, .null, .int (iI 0), .int (iI 0), .int (iI 0), .int (iI 0), .int (iI 0), .int (iI 0)] O1 (by decide) hnm hA (by decide) ko1 hW1 dX5_init_26 rfl dX5_init_27 dX5_init_30 dX5_init_31 dX5_init_34 zCl3 zcl_X5_16 zns_X3 zin_X3 tyX3_ok (by decide +kernel) (fun q hq => I_X3_init hq (kN (zx (zx K M0) M1)) (Nat.lt_succ_self _) _ (zup_s _ _ _)) (fun q L u h => jbS_of h) gOK_S hP.2.2.2.1 zi_X3_init zin_X3 zc_X3_init ⟨by decide +kernel, by decide +kernel, by decide +kernel⟩ rfl (by show xc X + 9 + 1 + 5 ≤ (xR X).cells; omega) (by show xn X + 253 + 11 + 35 ≤ (xR X).slots; omega) fl_X5_23 (by decide) rfl (by decide +kernel) (fun _ => rfl) (fun _ => rfl) rfl (fun M2 u2 ko2 hW2 O2 => ?_)
  refine js_stage (n := 16) (ci := 1) (fi := 3) (mc := 1) (ms := 7) (g := jb1) (tf := .object RX1) [.null, .int (iI 0), .int (iI 0)] O2 (by decide) hnm hA (by decide) ko2 hW2 dX5_init_37 rfl dX5_init_38 dX5_init_41 dX5_init_42 dX5_init_45 zCl1 zcl_X5_26 zns_X1 zin_X1 tyX1_ok (by decide +kernel) (fun q hq => I_X1_init hq (kN (zx (zx (zx K M0) M1) M2)) (Nat.lt_succ_self _) _ (zup_s _ _ _)) (fun q L u h => jb1_of h) gOK_1 hP.2.2.2.2.1 zi_X1_init zin_X1 zc_X1_init ⟨by decide +kernel, by decide +kernel, by decide +kernel⟩ rfl (by show xc X + 15 + 1 + 1 ≤ (xR X).cells; omega) (by show xn X + 299 + 3 + 7 ≤ (xR X).slots; omega) fl_X5_29 (by decide) rfl (by decide +kernel) (fun _ => rfl) (fun _ => rfl) rfl (fun M3 u3 ko3 hW3 O3 => ?_)
  refine js_stage (n := 18) (ci := 2) (fi := 4) (mc := 2) (ms := 12) (g := jb2) (tf := .object RX2) [.null, .null, .int (iI 0)] O3 (by decide) hnm hA (by decide) ko3 hW3 dX5_init_48 rfl dX5_init_49 dX5_init_52 dX5_init_53 dX5_init_56 zCl2 zcl_X5_33 zns_X2 zin_X2 tyX2_ok (by decide +kernel) (fun q hq => I_X2_init hq (kN (zx (zx (zx (zx K M0) M1) M2) M3)) (Nat.lt_succ_self _) _ (zup_s _ _ _)) (fun q L u h => jb2_of h) gOK_2 hP.2.2.2.2.2 zi_X2_init zin_X2 zc_X2_init ⟨by decide +kernel, by decide +kernel, by decide +kernel⟩ rfl (by show xc X + 17 + 1 + 2 ≤ (xR X).cells; omega) (by show xn X + 309 + 3 + 12 ≤ (xR X).slots; omega) fl_X5_36 (by decide) rfl (by decide +kernel) (fun _ => rfl) (fun _ => rfl) rfl (fun M4 u4 ko4 hW4 O4 => ?_)
  refine js_pile (n := 21) (fi := 5) (m := 8) 2 (by decide) (by decide) O4 (by decide) hnm hA (by decide) ko4 hW4 dX5_init_59 rfl dX5_init_60 dX5_init_63 (fun K2 X2 st c2 O9 k9 => r_bipush O9 (by decide +kernel) dX5_init_64 k9) dX5_init_66 dX5_init_69 hP.2.1 (by show xc X + 20 + 1 + (1 + 6 * 8) ≤ (xR X).cells; omega) (by show xn X + 324 + 2 + (8 + 46 * 8) ≤ (xR X).slots; omega) fl_X5_45 (by decide) rfl (by decide +kernel) rfl (fun M5 u5 ko5 hW5 O5 => ?_)
  refine js_pile (n := 71) (fi := 6) (m := 2) 1 (by decide) (by decide) O5 (by decide) hnm hA (by decide) ko5 hW5 dX5_init_72 rfl dX5_init_73 dX5_init_76 (fun K2 X2 st c2 O9 k9 => r_iconst O9 dX5_init_77 k9) dX5_init_78 dX5_init_81 hP.2.1 (by show xc X + 70 + 1 + (1 + 6 * 2) ≤ (xR X).cells; omega) (by show xn X + 702 + 2 + (2 + 46 * 2) ≤ (xR X).slots; omega) fl_X5_49 (by decide) rfl (by decide +kernel) rfl (fun M6 u6 ko6 hW6 O6 => ?_)
  have eX : zXg (zXg (zXg (zXg (zXg (zXg (zXg X (1 + 2) (3 + 204)) (1 + 5) (11 + 35)) (1 + 5) (11 + 35)) (1 + 1) (3 + 7)) (1 + 2) (3 + 12)) (2 + 6 * 8) (2 + 47 * 8)) (2 + 6 * 2) (2 + 47 * 2) = zXg X 84 798 := by
    simp only [zXg_app]
  refine G_cast rfl eX ?_
  rw [eX] at O6
  generalize hK7 : (zx (zx (zx (zx (zx (zx (zx K M0) M1) M2) M3) M4) M5) M6) = K7 at *
  have eD : kD K7 = kD K := by rw [← hK7]; rfl
  have eA : kA K7 = kA K := by rw [← hK7]; rfl
  have eT : zty K7 = zty K := by rw [← hK7]; rfl
  have el : kl K7 = kl K := by rw [← hK7]; rfl
  have eI : kI K7 = kI K := by rw [← hK7]; rfl
  have eC : kC K7 = kC K := by rw [← hK7]; rfl
  have eS : kS K7 = kS K := by rw [← hK7]; rfl
  have hW7 : jsW K7 u6 85 [some 1, some 4, some 10, some 16, some 18, some 21, some 71] jsB7 := hW6
  have hI2 : zInj (zx K (jsL84 K7)) := js_inj h1 ko6.symm eA hW7.1 (zO_I O6)
  have hN : kN (zx K (jsL84 K7)) = 85 := by rw [kN_zx, h1, jsL84_len]
  have O : zO (zx K (jsL84 K7)) (zXg X 84 798) cX5_init yX5_init.cls none 2 5 := by
    have h9 := zO_grow (K2 := zx K (jsL84 K7)) (c := 0) (n := 0) O6 eD.symm eT.symm hI2 (by show xc X + 84 + 0 ≤ (xR X).cells; omega) (by show xn X + 798 + 0 ≤ (xR X).slots; omega)
    exact h9
  refine zx_G (K := K7) (K2 := zx K (jsL84 K7)) (ct2 := layC (zx K (jsL84 K7)) jsC0) el.symm eD.symm eA.symm (fun i hi => ⟨jsp i, by rw [hW7.1]; exact jsp_lt i (by omega), jsL84_kad h1 ko6.symm (by omega), js_same h1 ko6.symm eI eC eS hW7 i (by omega)⟩) ?_
  have ho : kad K 0 = kad (zx K (jsL84 K7)) 0 := (zx_old (by omega)).symm
  have hS : jsS (zx K (jsL84 K7)) aK aV (xs (zXg X 84 798)) := hP.1
  generalize hKK : zx K (jsL84 K7) = K2 at *
  generalize hXX : zXg X 84 798 = X2 at *
  refine r_iconst O dX5_init_84 ?_
  refine n_istore_n O dX5_init_85 (by decide) rfl ?_
  have loop : ∀ (r k : Nat) (lt : Int → Int), k + r = 62 → (∀ i : Int, 0 ≤ i → i < (k : Int) → lt i = jsT i) → G K2 X2 2 86 [(0, .ref (kad K 0)), (1, .int (iI (k : Int)))] [] (layC K2 (wT jsC0 (lt, (fun _ => 0), (k : Int)))) := by
    intro r
    induction r with
    | zero =>
      intro k lt hk hlt
      have hk : k = 62 := by omega
      subst hk
      refine n_iload_n O dX5_init_86 rfl ?_
      refine r_ldcS O hS.2.2.2 dX5_init_87 ?_
      refine r_pV0i O (jsS_pk K2 aK aV) hS (C_J0_length hI2 _ aK aV) q_X5_54 (fun H locs hs => jsS_recv hS H locs hs) (by decide) (by decide) (Nat.le_of_ble_eq_true rfl) dX5_init_89 (fun z u hz => ?_)
      obtain ⟨rfl, rfl⟩ := hz
      refine r_icmp_ge (tgt := 115) O ⟨by decide, by decide⟩ ⟨by decide, by decide⟩ dX5_init_92 (by decide) (fun _ => ?_) (fun hc => absurd (by decide) hc)
      refine n_aload_n O dX5_init_115 rfl ?_
      rw [ho]
      refine O_get_0 O hN fl_X5_10 dX5_init_116 ?_
      refine n_aload_n O dX5_init_119 rfl ?_
      refine O_get_1 O hN fl_X5_19 dX5_init_120 ?_
      refine r_callV1i O (E_X4_layOut hI2 hN (wT jsC0 (lt, (fun _ => 0), ((62 : Nat) : Int))) ⟨⟨(by decide : (0 : Int) ≤ ((62 : Nat) : Int)), (by decide : ((62 : Nat) : Int) ≤ 200)⟩, fun i h0 h1 => by
        have h2 : i < ((62 : Nat) : Int) := h1
        show 32 ≤ lt i ∧ lt i ≤ 126
        rw [hlt i h0 h2]
        exact jsT_b i h0 (by omega)⟩ (fun k _ _ => ⟨(by decide : (0 : Int) ≤ 0), (by decide : (0 : Int) ≤ 99)⟩) 0 (by decide)) q_X5_68 (by rw [hN]; decide) (fs := _) rfl rfl rfl (by decide) (by decide) (Nat.le_of_ble_eq_true rfl) dX5_init_123 (fun z u hz => ?_)
      obtain ⟨nu1, w, hnu, hf, rfl⟩ := hz
      have hw : w = fiV jsZ := fi_only (fun i h0 h1 => hlt i h0 (by omega)) hf
      subst hw
      refine r_pop O rfl dX5_init_126 ?_
      refine n_aload_n O dX5_init_127 rfl ?_
      refine O_get_0 O hN fl_X5_10 dX5_init_128 ?_
      refine r_callV0v O (E_X4_clear hI2 hN _) q_X5_72 (by rw [hN]; decide) (fs := _) rfl rfl rfl (by decide) (by decide) (Nat.le_of_ble_eq_true rfl) dX5_init_131 (fun u hz => ?_)
      obtain rfl := hz
      subst hKK
      subst hXX
      exact hE _ _ (jsL84 K7) _ 84 798 (Nat.le_refl _) (Nat.le_refl _) dX5_init_134 ⟨jsL84_len K7, _, jsC_ok hnu, ⟨rfl, rfl, rfl, rfl, rfl⟩, rfl⟩ hI2
    | succ r ih =>
      intro k lt hk hlt
      refine n_iload_n O dX5_init_86 rfl ?_
      refine r_ldcS O hS.2.2.2 dX5_init_87 ?_
      refine r_pV0i O (jsS_pk K2 aK aV) hS (C_J0_length hI2 _ aK aV) q_X5_54 (fun H locs hs => jsS_recv hS H locs hs) (by decide) (by decide) (Nat.le_of_ble_eq_true rfl) dX5_init_89 (fun z u hz => ?_)
      obtain ⟨rfl, rfl⟩ := hz
      refine r_icmp_ge (tgt := 115) O ⟨by omega, by omega⟩ ⟨by decide, by decide⟩ dX5_init_92 (by decide) (fun hc => absurd hc (by omega)) (fun _ => ?_)
      refine n_aload_n O dX5_init_95 rfl ?_
      rw [ho]
      refine O_get_0 O hN fl_X5_10 dX5_init_96 ?_
      refine r_ldcS O hS.2.2.2 dX5_init_99 ?_
      refine n_iload_n O dX5_init_101 rfl ?_
      refine r_pV1i O (jsS_pk K2 aK aV) hS (C_J0_charAt hI2 _ aK aV (k : Int) (by omega) (by omega)) q_X5_60 (fun H locs hs => jsS_recv hS H locs hs) (by decide) (by decide) (Nat.le_of_ble_eq_true rfl) dX5_init_102 (fun z u hz => ?_)
      obtain ⟨rfl, rfl⟩ := hz
      have hcb := jsT_b (k : Int) (by omega) (by omega)
      refine r_callV1i O ((show zCi K2 yX4_append cX4_append 2 (some .boolean) 0 [.ref (kad K2 1), .int (iI (jsT (k : Int)))] (layC K2 (wT jsC0 (lt, (fun _ => 0), (k : Int)))) _ from C_X4_append hI2 hN (wT jsC0 (lt, (fun _ => 0), (k : Int))) lt (fun _ => 0) (k : Int) ⟨by omega, fun i h0 h1 => by rw [hlt i h0 h1]; exact jsT_b i h0 (by omega)⟩ (jsT (k : Int)) hcb)) q_X5_64 (by rw [hN]; decide) (fs := _) rfl rfl rfl (by decide) (by decide) (Nat.le_of_ble_eq_true rfl) dX5_init_105 (fun z u hz => ?_)
      have hz2 : u = layC K2 (wT jsC0 (uI lt (k : Int) (jsT (k : Int)), (fun _ => 0), ((k + 1 : Nat) : Int))) := by
        rcases hz with ⟨-, -, h⟩ | ⟨h, -, -⟩
        · exact h
        · exfalso
          omega
      subst hz2
      refine r_pop O rfl dX5_init_108 ?_
      refine n_iinc O dX5_init_109 (by decide) rfl rfl ?_
      refine r_goto (tgt := 86) O dX5_init_112 (by decide) ?_
      exact G_chk (ih (k + 1) _ (by omega) (fun i h0 h1 => by
        unfold uI
        by_cases hi : i = (k : Int)
        · rw [if_pos hi, hi]
        · rw [if_neg hi]
          exact hlt i h0 (by omega))) (zsc (by rw [ho]; rfl) (zsc rfl zsn))
  exact G_chk (loop 62 0 (fun _ => 0) rfl (fun i h0 h1 => absurd h1 (by omega))) (zsc rfl (zsc rfl zsn))
