/-! THE STRING CONSTANT -/
def jsX : String := "m0,3,12,6;m1,4,20,3;m2,2,9,5;m3,5,30,9;m0,1,8,2;p40,6,2;r5;f6;"
def jsL : List Int := [109, 48, 44, 51, 44, 49, 50, 44, 54, 59, 109, 49, 44, 52, 44, 50, 48, 44, 51, 59, 109, 50, 44, 50, 44, 57, 44, 53, 59, 109, 51, 44, 53, 44, 51, 48, 44, 57, 59, 109, 48, 44, 49, 44, 56, 44, 50, 59, 112, 52, 48, 44, 54, 44, 50, 59, 114, 53, 59, 102, 54, 59]
def jsB : List Int32 := [109, 48, 44, 51, 44, 49, 50, 44, 54, 59, 109, 49, 44, 52, 44, 50, 48, 44, 51, 59, 109, 50, 44, 50, 44, 57, 44, 53, 59, 109, 51, 44, 53, 44, 51, 48, 44, 57, 59, 109, 48, 44, 49, 44, 56, 44, 50, 59, 112, 52, 48, 44, 54, 44, 50, 59, 114, 53, 59, 102, 54, 59]
def jsT : Int → Int := fun p => jsL.getD p.toNat 0
theorem jsB_eq : ∀ j : Nat, j < 62 → jsB.getD j 0 = iI (jsL.getD j 0) := by decide +kernel
theorem jsB_and : ∀ j : Nat, j < 62 → iI (jsL.getD j 0) &&& iI 255 = iI (jsL.getD j 0) := by decide +kernel
theorem jsB_c : ∀ j : Nat, j < 62 → ((iI (jsL.getD j 0)).toUInt32 % 65536).toInt32 = iI (jsL.getD j 0) := by decide +kernel
theorem jsB_n : ∀ j : Nat, j < 62 → narrow .char (.int (iI (jsL.getD j 0))) = .int (iI (jsL.getD j 0)) := by decide +kernel
theorem jsT_b : ∀ p : Int, 0 ≤ p → p < 62 → 32 ≤ jsT p ∧ jsT p ≤ 126 := by
  intro p h0 h1
  have h : ∀ j : Nat, j < 62 → 32 ≤ jsL.getD j 0 ∧ jsL.getD j 0 ≤ 126 := by decide +kernel
  exact h p.toNat (by omega)
/-- what is known of the constant: String's one flag, the formatter, the constant's cells -/
def jsS (K : zK) (aK aV : Nat) (U : State) : Prop := vk_S 1 [62] [jsB] (fun _ => aK) (fun _ => aV) (kA K) U U.heap ∧ va_Z "java/lang/String" "COMPACT_STRINGS" "Z" (.int (iI 1)) (kA K) U U.heap ∧ va_Zq "jdk/internal/util/Preconditions" "SIOOBE_FORMATTER" "Ljava/util/function/BiFunction;" (kA K) U U.heap ∧ vk_R RX5 52 jsX aK U
theorem jsS_pk (K : zK) (aK aV : Nat) : zPk K (jsS K aK aV) := by
  refine ⟨fun a U g mk h => ?_, fun s U H locs h hS hU hW => ?_⟩
  · obtain ⟨h1, h2, h3, h4⟩ := h
    exact ⟨vk_S.moved (u := U) (U := U.calling g mk a) (Vm.Alike.refl U.vm) h1, va_Z.moved (u := U) (U := U.calling g mk a) (Vm.Alike.refl U.vm) h2, va_Zq.moved (u := U) (U := U.calling g mk a) (Vm.Alike.refl U.vm) h3, vk_R.same rfl h4⟩
  · obtain ⟨h1, h2, h3, h4⟩ := h
    subst hU
    exact ⟨vk_S.moved hW.alike (h1.kept hS.2.1), va_Z.moved hW.alike (h2.kept hS.2.1), va_Zq.moved hW.alike (h3.kept hS.2.1), vk_R.warm hW h4⟩
theorem jsS_recv {K : zK} {aK aV : Nat} {s : State} (h : jsS K aK aV s) (H : Heap) (locs : List Loc) (hS : va_S (kA K) s.heap H locs) : ∃ cell : Cell, H[aK]? = some cell ∧ cell.vm.isStatics = false ∧ s.vm.findClass "java/lang/String" = some cell.cls :=
  vk_recv (adK := fun _ => aK) h.1 (i := 0) (by decide) hS
theorem jf38 : Cond.fieldLink RJ0 38 "java/lang/String" "COMPACT_STRINGS" "Z" ∈ zTB := zTB_of (zmem1 (List.mem_of_getElem? (i := 157) rfl)) rfl
theorem jf9 : Cond.fieldLink RJ0 9 "java/lang/String" "value" "[B" ∈ zTB := zTB_of (zmem4 (List.mem_of_getElem? (i := 152) rfl)) rfl
theorem jf15 : Cond.fieldLink RJ0 15 "java/lang/String" "coder" "B" ∈ zTB := zTB_of (zmem4 (List.mem_of_getElem? (i := 153) rfl)) rfl
theorem jf1053 : Cond.fieldLink RJ0 1053 "jdk/internal/util/Preconditions" "SIOOBE_FORMATTER" "Ljava/util/function/BiFunction;" ∈ zTB := zTB_of (zmem1 (List.mem_of_getElem? (i := 173) rfl)) rfl
set_option maxHeartbeats 4000000 in
theorem C_J0_coder {K : zK} (hI : zInj K) (ct : zE) (aK aV : Nat) : zCPi K yJ0_coder_7d493 cJ0_coder_7d493 1 (some .byte) 0 [.ref aK] ct (jsS K aK aV) (fun z u => z = 0 ∧ u = ct) := by
  refine zCPi_in hI (by decide +kernel) (Nat.le_of_ble_eq_true rfl) (fun X O hS hE => ?_)
  refine r_gets O hS.2.1 jf38 dJ0_coder_7d493_0 ?_
  refine r_if_eq (tgt := 13) O ⟨by decide, by decide⟩ dJ0_coder_7d493_3 (by decide) (fun hc => absurd hc (by decide)) (fun _ => ?_)
  refine n_aload_n O dJ0_coder_7d493_6 rfl ?_
  refine r_getO O (hS.1.1 0 (by decide)).2.1 jf15 dJ0_coder_7d493_7 ?_
  refine r_goto (tgt := 14) O dJ0_coder_7d493_10 (by decide) ?_
  exact hE _ _ 0 _ dJ0_coder_7d493_14 rfl ⟨rfl, rfl⟩
set_option maxHeartbeats 4000000 in
theorem C_J0_isLatin1 {K : zK} (hI : zInj K) (ct : zE) (aK aV : Nat) : zCPi K yJ0_isLatin1_aae02 cJ0_isLatin1_aae02 1 (some .boolean) 0 [.ref aK] ct (jsS K aK aV) (fun z u => z = 1 ∧ u = ct) := by
  refine zCPi_in hI (by decide +kernel) (Nat.le_of_ble_eq_true rfl) (fun X O hS hE => ?_)
  refine r_gets O hS.2.1 jf38 dJ0_isLatin1_aae02_0 ?_
  refine r_if_eq (tgt := 17) O ⟨by decide, by decide⟩ dJ0_isLatin1_aae02_3 (by decide) (fun hc => absurd hc (by decide)) (fun _ => ?_)
  refine n_aload_n O dJ0_isLatin1_aae02_6 rfl ?_
  refine r_getO O (hS.1.1 0 (by decide)).2.1 jf15 dJ0_isLatin1_aae02_7 ?_
  refine r_if_ne (x := 0) (tgt := 17) O ⟨by decide, by decide⟩ dJ0_isLatin1_aae02_10 (by decide) (fun hc => absurd rfl hc) (fun _ => ?_)
  refine r_iconst O dJ0_isLatin1_aae02_13 ?_
  refine r_goto (tgt := 18) O dJ0_isLatin1_aae02_14 (by decide) ?_
  exact hE _ _ 1 _ dJ0_isLatin1_aae02_18 rfl ⟨rfl, rfl⟩
set_option maxHeartbeats 4000000 in
theorem C_J0_length {K : zK} (hI : zInj K) (ct : zE) (aK aV : Nat) : zCPi K yJ0_length_8abf5 cJ0_length_8abf5 1 (some .int) 1 [.ref aK] ct (jsS K aK aV) (fun z u => z = 62 ∧ u = ct) := by
  refine zCPi_in hI (by decide +kernel) (Nat.le_of_ble_eq_true rfl) (fun X O hS hE => ?_)
  refine n_aload_n O dJ0_length_8abf5_0 rfl ?_
  refine r_getO O (hS.1.1 0 (by decide)).2.2.1 jf9 dJ0_length_8abf5_1 ?_
  refine r_tlen O (hS.1.1 0 (by decide)).2.2.2 (z := 62) (by decide) dJ0_length_8abf5_4 ?_
  refine n_aload_n O dJ0_length_8abf5_5 rfl ?_
  refine r_pV0i O (jsS_pk K aK aV) hS (C_J0_coder hI ct aK aV) q_J0_335 (fun H locs hs => jsS_recv hS H locs hs) (by decide) (by decide) (Nat.le_of_ble_eq_true rfl) dJ0_length_8abf5_6 (fun z u hz => ?_)
  obtain ⟨rfl, rfl⟩ := hz
  refine r_ishr (z := 62) O (by decide) dJ0_length_8abf5_9 ?_
  exact hE _ _ 62 _ dJ0_length_8abf5_10 rfl ⟨rfl, rfl⟩
set_option maxHeartbeats 4000000 in
theorem C_J3_checkIndex {K : zK} (hI : zInj K) (ct : zE) (k n : Int) (h0 : 0 ≤ k) (h1 : k < n) (hn : n < 1000) (v : Value) (hv : v = .null ∨ ∃ t, v = .ref t) : zCi K yJ3_checkIndex_8e157 cJ3_checkIndex_8e157 3 (some .int) 0 [.int (iI k), .int (iI n), v] ct (fun z u => z = k ∧ u = ct) := by
  have hl : (lg_sl [.int (iI k), .int (iI n), v]).length ≤ 3 := by
    rcases hv with rfl | ⟨t, rfl⟩
    · exact Nat.le_of_ble_eq_true rfl
    · exact Nat.le_of_ble_eq_true rfl
  refine zCi_in hI (by decide +kernel) hl (fun X O hE => ?_)
  refine n_iload_n O dJ3_checkIndex_8e157_0 rfl ?_
  refine r_if_lt (tgt := 9) O ⟨by omega, by omega⟩ dJ3_checkIndex_8e157_1 (by decide) (fun hc => absurd hc (by omega)) (fun _ => ?_)
  refine n_iload_n O dJ3_checkIndex_8e157_4 rfl ?_
  refine n_iload_n O dJ3_checkIndex_8e157_5 rfl ?_
  refine r_icmp_lt (tgt := 16) O ⟨by omega, by omega⟩ ⟨by omega, by omega⟩ dJ3_checkIndex_8e157_6 (by decide) (fun _ => ?_) (fun hc => absurd h1 hc)
  refine n_iload_n O dJ3_checkIndex_8e157_16 rfl ?_
  exact hE _ _ k _ dJ3_checkIndex_8e157_17 rfl ⟨rfl, rfl⟩
set_option maxHeartbeats 4000000 in
theorem C_J0_checkIndex {K : zK} (hI : zInj K) (ct : zE) (aK aV : Nat) (k n : Int) (h0 : 0 ≤ k) (h1 : k < n) (hn : n < 1000) : zCPv K yJ0_checkIndex_df160 cJ0_checkIndex_df160 2 1 [.int (iI k), .int (iI n)] ct (jsS K aK aV) (fun u => u = ct) := by
  refine zCPv_in hI (by decide +kernel) (Nat.le_of_ble_eq_true rfl) (fun X O hS hE => ?_)
  refine n_iload_n O dJ0_checkIndex_df160_0 rfl ?_
  refine n_iload_n O dJ0_checkIndex_df160_1 rfl ?_
  have hv : ∃ v : Value, (v = .null ∨ ∃ t, v = .ref t) ∧ va_Z "jdk/internal/util/Preconditions" "SIOOBE_FORMATTER" "Ljava/util/function/BiFunction;" v (kA K) (xs X) (xs X).heap := by
    rcases hS.2.2.1 with h | ⟨t, h⟩
    · exact ⟨_, Or.inl rfl, h⟩
    · exact ⟨_, Or.inr ⟨t, rfl⟩, h⟩
  obtain ⟨v, hv, hz⟩ := hv
  refine r_gets O hz jf1053 dJ0_checkIndex_df160_2 ?_
  refine r_callS3i O (C_J3_checkIndex hI ct k n h0 h1 hn v hv) q_J0_1059 (by decide) (by decide) (Nat.le_of_ble_eq_true rfl) dJ0_checkIndex_df160_5 (fun z u hz => ?_)
  obtain ⟨rfl, rfl⟩ := hz
  refine r_pop O rfl dJ0_checkIndex_df160_8 ?_
  exact hE _ _ _ dJ0_checkIndex_df160_9 rfl
set_option maxHeartbeats 4000000 in
theorem C_J1_charAt {K : zK} (hI : zInj K) (ct : zE) (aK aV : Nat) (k : Int) (h0 : 0 ≤ k) (h1 : k < 62) : zCPi K yJ1_charAt_3b067 cJ1_charAt_3b067 2 (some .char) 2 [.ref aV, .int (iI k)] ct (jsS K aK aV) (fun z u => z = jsT k ∧ u = ct) := by
  have hk : k.toNat < 62 := by omega
  refine zCPi_in hI (by decide +kernel) (Nat.le_of_ble_eq_true rfl) (fun X O hS hE => ?_)
  refine n_iload_n O dJ1_charAt_3b067_0 rfl ?_
  refine n_aload_n O dJ1_charAt_3b067_1 rfl ?_
  refine r_tlen O (hS.1.1 0 (by decide)).2.2.2 (z := 62) (by decide) dJ1_charAt_3b067_2 ?_
  refine r_pS2v O (jsS_pk K aK aV) hS (C_J0_checkIndex hI ct aK aV k 62 h0 h1 (by omega)) q_J1_9 (by decide) (by decide) (Nat.le_of_ble_eq_true rfl) dJ1_charAt_3b067_3 (fun u hz => ?_)
  subst hz
  refine n_aload_n O dJ1_charAt_3b067_6 rfl ?_
  refine n_iload_n O dJ1_charAt_3b067_7 rfl ?_
  refine r_tb (v := .int (iI (jsL.getD k.toNat 0))) O (hS.1.1 0 (by decide)).2.2.2 (iI_in h0 h1 (by decide)) (by
    rw [iI_cl h0 (by omega)]
    exact congrArg Value.int (jsB_eq k.toNat hk)) dJ1_charAt_3b067_8 ?_
  refine r_sipush O (by decide +kernel) dJ1_charAt_3b067_9 ?_
  refine r_iand (z := jsL.getD k.toNat 0) O (jsB_and k.toNat hk) dJ1_charAt_3b067_12 ?_
  refine r_i2c (z := jsL.getD k.toNat 0) O (jsB_c k.toNat hk) dJ1_charAt_3b067_13 ?_
  exact hE _ _ _ _ dJ1_charAt_3b067_14 (jsB_n k.toNat hk) ⟨rfl, rfl⟩
set_option maxHeartbeats 4000000 in
theorem C_J0_charAt {K : zK} (hI : zInj K) (ct : zE) (aK aV : Nat) (k : Int) (h0 : 0 ≤ k) (h1 : k < 62) : zCPi K yJ0_charAt_5068e cJ0_charAt_5068e 2 (some .char) 3 [.ref aK, .int (iI k)] ct (jsS K aK aV) (fun z u => z = jsT k ∧ u = ct) := by
  have hk : k.toNat < 62 := by omega
  refine zCPi_in hI (by decide +kernel) (Nat.le_of_ble_eq_true rfl) (fun X O hS hE => ?_)
  refine n_aload_n O dJ0_charAt_5068e_0 rfl ?_
  refine r_pV0i O (jsS_pk K aK aV) hS (C_J0_isLatin1 hI ct aK aV) q_J0_492 (fun H locs hs => jsS_recv hS H locs hs) (by decide) (by decide) (Nat.le_of_ble_eq_true rfl) dJ0_charAt_5068e_1 (fun z u hz => ?_)
  obtain ⟨rfl, rfl⟩ := hz
  refine r_if_eq (tgt := 16) O ⟨by decide, by decide⟩ dJ0_charAt_5068e_4 (by decide) (fun hc => absurd hc (by decide)) (fun _ => ?_)
  refine n_aload_n O dJ0_charAt_5068e_7 rfl ?_
  refine r_getO O (hS.1.1 0 (by decide)).2.2.1 jf9 dJ0_charAt_5068e_8 ?_
  refine n_iload_n O dJ0_charAt_5068e_11 rfl ?_
  refine r_pS2i O (jsS_pk K aK aV) hS (C_J1_charAt hI u aK aV k h0 h1) q_J0_495 (by decide) (by decide) (Nat.le_of_ble_eq_true rfl) dJ0_charAt_5068e_12 (fun z u2 hz => ?_)
  obtain ⟨rfl, rfl⟩ := hz
  exact hE _ _ _ _ dJ0_charAt_5068e_15 (jsB_n k.toNat hk) ⟨rfl, rfl⟩
