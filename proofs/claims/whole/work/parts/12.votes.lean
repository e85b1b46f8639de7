theorem iI_remN {a b : Nat} (ha : a < 2147483648) (hb : 0 < b) (hb2 : b < 2147483648) : iI (a : Int) - iI (a : Int) / iI (b : Int) * iI (b : Int) = iI ((a % b : Nat) : Int) := by
  rw [iI_rem (by omega) (by omega) (by omega) (by omega)]
  rfl
theorem gcd_pr {a b d r k : Nat} (hr0 : r ≠ 0) (hb : b < 16777216) (h00 : k = 0 → d = a ∧ r = b) (hrd : k = 0 ∨ r ≤ d) (hpr : k = 0 ∨ d * r * 2 ^ (k - 1) < 2 ^ 55) : r * (d % r) * 2 ^ (k + 1 - 1) < 2 ^ 55 := by
  have hml : d % r < r := Nat.mod_lt _ (by omega)
  by_cases hk : k = 0
  · obtain ⟨h1, h2⟩ := h00 hk
    subst hk
    have h3 : r * (d % r) ≤ 16777216 * 16777216 := Nat.mul_le_mul (by omega) (by omega)
    show r * (d % r) * 2 ^ 0 < 2 ^ 55
    omega
  · obtain ⟨q, rfl⟩ : ∃ q, k = q + 1 := ⟨k - 1, by omega⟩
    have h3 : d * r * 2 ^ q < 2 ^ 55 := hpr.resolve_left hk
    have h4 := prod_step (k := q) (M := 2 ^ 55 - 1) hr0 (hrd.resolve_left hk) (by omega)
    show r * (d % r) * 2 ^ (q + 1) < 2 ^ 55
    omega
theorem gcd_end {a b d r k : Nat} (hk : 64 ≤ k ∨ r = 0) (hpr : k = 0 ∨ d * r * 2 ^ (k - 1) < 2 ^ 55) (hrd : k = 0 ∨ r ≤ d) (hkk : k ≤ 64) : Nat.gcd d r = d := by
  have hr : r = 0 := by
    rcases hk with h | h
    · have e : k = 64 := by omega
      subst e
      have h2 : d * r * 2 ^ 63 < 2 ^ 55 := hpr.resolve_left (by decide)
      have h1 : r ≤ d := hrd.resolve_left (by decide)
      have h3 : d * r = 0 := by
        rcases Nat.eq_zero_or_pos (d * r) with q | q
        · exact q
        · have h4 : 1 * 2 ^ 63 ≤ d * r * 2 ^ 63 := Nat.mul_le_mul_right _ q
          omega
      rcases Nat.mul_eq_zero.mp h3 with q | q <;> omega
    · exact h
  subst hr
  exact Nat.gcd_zero_right d
theorem v_put_he {K : zK} {X : zX} {cc : ByteArray} {own : String} {ret : Option FieldType} {nL f pc : Nat} {lo : List (Nat × Value)} {st : List Value} {idx : Nat} {x : Int} {c : CS} {j : Nat} {v : SV} (O : zO K X cc own ret nL f) (hN : kN K = 85) (hj : j < 12) (hw : Cond.fieldLink own idx RX3 (TX3 7).2.1 (TX3 7).2.2.1 ∈ zTB) (hd : decode cc pc = .ok (.putfield idx, 3)) (k : G K X nL (pc + 3) lo st (layC K (wS c j (heV v x)))) : G K X nL pc lo (.int (iI x) :: .ref (kad K (6 * j + 13)) :: st) (layC K (wS c j v)) := by
  obtain ⟨n, am, he, sa, ro, fa, kd, sp, hu, be, ea⟩ := v
  exact s_put_he O hN hj hw hd k
theorem v_put_sa {K : zK} {X : zX} {cc : ByteArray} {own : String} {ret : Option FieldType} {nL f pc : Nat} {lo : List (Nat × Value)} {st : List Value} {idx : Nat} {x : Int} {c : CS} {j : Nat} {v : SV} (O : zO K X cc own ret nL f) (hN : kN K = 85) (hj : j < 12) (hw : Cond.fieldLink own idx RX3 (TX3 8).2.1 (TX3 8).2.2.1 ∈ zTB) (hd : decode cc pc = .ok (.putfield idx, 3)) (k : G K X nL (pc + 3) lo st (layC K (wS c j (saV v x)))) : G K X nL pc lo (.int (iI x) :: .ref (kad K (6 * j + 13)) :: st) (layC K (wS c j v)) := by
  obtain ⟨n, am, he, sa, ro, fa, kd, sp, hu, be, ea⟩ := v
  exact s_put_sa O hN hj hw hd k
theorem E_X4_layOut {K : zK} (hI : zInj K) (hN : kN K = 85) (c : CS) (ht : okT c.2.1.1 c.2.1.2.2) (hnu : okN c.2.1.2.1) (j : Nat) (hj : j < 12) : zCi K yX4_layOut cX4_layOut 5 (some .int) 4 [.ref (kad K 1), .ref (kad K (6 * j + 13))] (layC K c) (fun z u => ∃ (nu1 : Int → Int) (w : SV), okN nu1 ∧ faultP c.2.1.1 c.2.1.2.2 (c.1 j) z w ∧ u = layC K (wT (wS c j w) (c.2.1.1, nu1, c.2.1.2.2))) := C_X4_layOut hI hN c c.2.1.1 c.2.1.2.1 c.2.1.2.2 ht hnu j hj
theorem E_X0_put_U {K : zK} (hI : zInj K) (hN : kN K = 85) (c : CS) (hp : okL 8 2 c.2.2.2.2.1.1 c.2.2.2.2.1.2) : zCv K yX0_put cX0_put 2 2 [.ref (kad K 9), .ref (kad K (6 * 0 + 13))] (layC K c) (fun u => ∃ (g : Int → Nat) (m : Int), putR c g m ∧ u = layC K (putC c g m)) := C_X0_put_U hI hN c c.2.2.2.2.1.1 c.2.2.2.2.1.2 (fun i h0 h1 => by have := hp.2.1 i h0 h1; omega) 0 (by decide) (fun i h0 h1 => by have := hp.2.1 i h0 h1; omega) hp.1
theorem E_X0_put_P {K : zK} (hI : zInj K) (hN : kN K = 85) (c : CS) (hp : okL 2 10 c.2.2.2.2.2.1 c.2.2.2.2.2.2) (h2 : c.2.2.2.2.2.2 < 2) : zCv K yX0_put cX0_put 2 2 [.ref (kad K 11), .ref (kad K (6 * 0 + 13))] (layC K c) (fun u => u = layC K (wP (wS c (c.2.2.2.2.2.1 c.2.2.2.2.2.2) (cpV (c.1 0) (c.1 (c.2.2.2.2.2.1 c.2.2.2.2.2.2)))) (c.2.2.2.2.2.1, c.2.2.2.2.2.2 + 1))) := C_X0_put_P hI hN c c.2.2.2.2.2.1 c.2.2.2.2.2.2 (fun i h0 h1 => by have := hp.2.1 i h0 h1; omega) 0 (by decide) (fun i h0 h1 => by have := hp.2.1 i h0 h1; omega) ⟨hp.1.1, h2⟩
theorem E_X0_takeLast_U {K : zK} (hI : zInj K) (hN : kN K = 85) (c : CS) (hp : okL 8 2 c.2.2.2.2.1.1 c.2.2.2.2.1.2) : zCi K yX0_takeLast cX0_takeLast 2 (some .boolean) 2 [.ref (kad K 9), .ref (kad K (6 * 0 + 13))] (layC K c) (fun z u => (1 ≤ c.2.2.2.2.1.2 ∧ z = 1 ∧ u = layC K (wU (wS c 0 (cpV (c.1 (c.2.2.2.2.1.1 (c.2.2.2.2.1.2 - 1))) (c.1 0))) (c.2.2.2.2.1.1, c.2.2.2.2.1.2 - 1))) ∨ (¬ 1 ≤ c.2.2.2.2.1.2 ∧ z = 0 ∧ u = layC K c)) := C_X0_takeLast_U hI hN c c.2.2.2.2.1.1 c.2.2.2.2.1.2 (fun i h0 h1 => by have := hp.2.1 i h0 h1; omega) 0 (by decide) (fun i h0 h1 => by have := hp.2.1 i h0 h1; omega) hp.1
theorem E_X0_takeLast_P {K : zK} (hI : zInj K) (hN : kN K = 85) (c : CS) (hp : okL 2 10 c.2.2.2.2.2.1 c.2.2.2.2.2.2) : zCi K yX0_takeLast cX0_takeLast 2 (some .boolean) 2 [.ref (kad K 11), .ref (kad K (6 * 0 + 13))] (layC K c) (fun z u => (1 ≤ c.2.2.2.2.2.2 ∧ z = 1 ∧ u = layC K (wP (wS c 0 (cpV (c.1 (c.2.2.2.2.2.1 (c.2.2.2.2.2.2 - 1))) (c.1 0))) (c.2.2.2.2.2.1, c.2.2.2.2.2.2 - 1))) ∨ (¬ 1 ≤ c.2.2.2.2.2.2 ∧ z = 0 ∧ u = layC K c)) := C_X0_takeLast_P hI hN c c.2.2.2.2.2.1 c.2.2.2.2.2.2 (fun i h0 h1 => by have := hp.2.1 i h0 h1; omega) 0 (by decide) (fun i h0 h1 => by have := hp.2.1 i h0 h1; omega) hp.1
theorem E_X0_clear_U {K : zK} (hI : zInj K) (hN : kN K = 85) (c : CS) : zCv K yX0_clear cX0_clear 1 0 [.ref (kad K 9)] (layC K c) (fun u => u = layC K (wU c (c.2.2.2.2.1.1, 0))) := C_X0_clear_U hI hN c c.2.2.2.2.1.1 c.2.2.2.2.1.2
theorem E_X0_clear_P {K : zK} (hI : zInj K) (hN : kN K = 85) (c : CS) : zCv K yX0_clear cX0_clear 1 0 [.ref (kad K 11)] (layC K c) (fun u => u = layC K (wP c (c.2.2.2.2.2.1, 0))) := C_X0_clear_P hI hN c c.2.2.2.2.2.1 c.2.2.2.2.2.2
theorem E_X2_clear {K : zK} (hI : zInj K) (hN : kN K = 85) (c : CS) : zCv K yX2_clear cX2_clear 1 0 [.ref (kad K 6)] (layC K c) (fun u => u = layC K (wV c (c.2.2.2.1.1, c.2.2.2.1.2.1, 0))) := C_X2_clear hI hN c c.2.2.2.1.1 c.2.2.2.1.2.1 c.2.2.2.1.2.2
theorem E_X4_clear {K : zK} (hI : zInj K) (hN : kN K = 85) (c : CS) : zCv K yX4_clear cX4_clear 1 0 [.ref (kad K 1)] (layC K c) (fun u => u = layC K (wT c (c.2.1.1, c.2.1.2.1, 0))) := C_X4_clear hI hN c c.2.1.1 c.2.1.2.1 c.2.1.2.2
theorem E_X1_measure {K : zK} (hI : zInj K) (hN : kN K = 85) (c : CS) (hv : okV (c.1 0)) : zCv K yX1_measure cX1_measure 3 3 [.ref (kad K 4), .ref (kad K (6 * 0 + 13))] (layC K c) (fun u => ∃ g : Int → Int, (∀ i : Nat, (i : Int) < qn (c.1 0) → g (i : Int) = reachV (c.1 0) (i : Int)) ∧ u = layC K (wE c (g, qn (c.1 0), qam (c.1 0)))) := C_X1_measure hI hN c c.2.2.1.1 c.2.2.1.2.1 c.2.2.1.2.2 0 (by decide) hv
set_option maxHeartbeats 4000000 in
theorem C_X5_isNoMember {K : zK} (hI : zInj K) (hN : kN K = 85) (c : CS) (hn : 0 ≤ qn (c.1 0) ∧ qn (c.1 0) ≤ 7) (i : Int) (bi : zB i)  : zCi K yX5_isNoMember cX5_isNoMember 2 (some .boolean) 1 [.ref (kad K 0), .int (iI i)] (layC K c) (fun z u => z = outV i 0 (qn (c.1 0) - 1) ∧ u = (layC K c)) := by
  obtain ⟨bi1, bi2⟩ := id bi
  refine zCi_in hI (by decide +kernel) (Nat.le_of_ble_eq_true rfl) (fun X O hE => ?_)
  refine n_iload_n O dX5_isNoMember_0 rfl ?_
  refine r_iconst O dX5_isNoMember_1 ?_
  refine n_aload_n O dX5_isNoMember_2 rfl ?_
  refine O_get_1 O hN fl_X5_19 dX5_isNoMember_3 ?_
  refine t_get_n O hN (by decide) fl_X5_82 dX5_isNoMember_6 ?_
  refine r_iconst O dX5_isNoMember_9 ?_
  refine r_isub O dX5_isNoMember_10 ?_
  refine r_callS3i O (C_X5_isOutside hI _ _ _ _ ⟨by omega, by omega⟩ ⟨by omega, by omega⟩ ⟨by omega, by omega⟩) q_X5_75 (by decide) (by decide) (Nat.le_of_ble_eq_true rfl) dX5_isNoMember_11 (fun zz11 zu11 hz11 => ?_)
  obtain ⟨hzo11, rfl⟩ := hz11
  have ho11 := outV_c hzo11
  exact hE _ _ _ _ dX5_isNoMember_14 (nar01 (by omega)) ⟨hzo11, rfl⟩
set_option maxHeartbeats 4000000 in
theorem C_X5_commonDivisor {K : zK} (hI : zInj K) (ct : zE) (a b : Nat) (ha : a < 2147483648) (hb : b < 16777216) : zCi K yX5_commonDivisor cX5_commonDivisor 6 (some .int) 0 [.int (iI (a : Int)), .int (iI (b : Int))] ct (fun z u => z = ((Nat.gcd a b : Nat) : Int) ∧ u = ct) := by
  refine zCi_in hI (by decide +kernel) (Nat.le_of_ble_eq_true rfl) (fun X O hE => ?_)
  refine n_iload_n O dX5_commonDivisor_0 rfl ?_
  refine n_istore_n O dX5_commonDivisor_1 (by decide) rfl ?_
  refine n_iload_n O dX5_commonDivisor_2 rfl ?_
  refine n_istore_n O dX5_commonDivisor_3 (by decide) rfl ?_
  refine r_iconst O dX5_commonDivisor_4 ?_
  refine n_istore O dX5_commonDivisor_5 (by decide) rfl ?_
  have L7 : ∀ (zk : Nat) (k d r : Nat), (k ≤ 64 ∧ d < 2147483648 ∧ r < 2147483648 ∧ Nat.gcd d r = Nat.gcd a b ∧ (k = 0 ∨ r ≤ d) ∧ (k = 0 ∨ d * r * 2 ^ (k - 1) < 2 ^ 55) ∧ (k = 0 → d = a ∧ r = b)) → 64 - k = zk → G K X 6 7 [(0, .int (iI (a : Int))), (1, .int (iI (b : Int))), (2, .int (iI (d : Int))), (3, .int (iI (r : Int))), (4, .int (iI (k : Int)))] [] ct := by
    intro zk
    induction zk using Nat.strongRecOn with
    | ind zk ih7 =>
      intro k d r hinv hk
      obtain ⟨hk64, hd, hr, hg, hrd, hpr, h00⟩ := hinv
      refine n_iload O dX5_commonDivisor_7 rfl ?_
      refine r_bipush O (by decide +kernel) dX5_commonDivisor_9 ?_
      refine r_icmp_ge (tgt := 34) O ⟨by omega, by omega⟩ ⟨by omega, by omega⟩ dX5_commonDivisor_11 (by decide) (fun hc11 => ?_) (fun hc11 => ?_)
      · skip
        refine n_iload_n O dX5_commonDivisor_34 rfl ?_
        exact hE _ _ _ _ dX5_commonDivisor_35 rfl ⟨by rw [← hg, gcd_end (a := a) (b := b) (k := k) (by omega) hpr hrd (by omega)], rfl⟩
      · skip
        refine n_iload_n O dX5_commonDivisor_14 rfl ?_
        refine r_if_eq (tgt := 34) O ⟨by omega, by omega⟩ dX5_commonDivisor_15 (by decide) (fun hc15 => ?_) (fun hc15 => ?_)
        · skip
          refine n_iload_n O dX5_commonDivisor_34 rfl ?_
          exact hE _ _ _ _ dX5_commonDivisor_35 rfl ⟨by rw [← hg, gcd_end (a := a) (b := b) (k := k) (by omega) hpr hrd (by omega)], rfl⟩
        · skip
          refine n_iload_n O dX5_commonDivisor_18 rfl ?_
          refine n_iload_n O dX5_commonDivisor_19 rfl ?_
          refine r_irem O (iI_ne0 (by omega) (by omega)) (iI_remN (a := d) (b := r) (by omega) (by omega) (by omega)) dX5_commonDivisor_20 ?_
          refine n_istore O dX5_commonDivisor_21 (by decide) rfl ?_
          refine n_iload_n O dX5_commonDivisor_23 rfl ?_
          refine n_istore_n O dX5_commonDivisor_24 (by decide) rfl ?_
          refine n_iload O dX5_commonDivisor_25 rfl ?_
          refine n_istore_n O dX5_commonDivisor_27 (by decide) rfl ?_
          refine n_iinc O dX5_commonDivisor_28 (by decide) rfl rfl ?_
          refine r_goto (tgt := 7) O dX5_commonDivisor_31 (by decide) ?_
          have hr0 : r ≠ 0 := by omega
          have hml : d % r < r := Nat.mod_lt _ (by omega)
          exact G_chk (ih7 _ (by omega) (k + 1) r (d % r) ⟨by omega, hr, by omega, (gcd_step d r).symm.trans hg, Or.inr (by omega), Or.inr (gcd_pr hr0 hb h00 hrd hpr), fun h => absurd h (by omega)⟩ rfl) (zsc rfl (zsc rfl (zsc rfl (zsc rfl (zsc rfl zsn)))))
  exact G_chk (L7 _ 0 a b ⟨by omega, ha, by omega, rfl, Or.inl rfl, Or.inl rfl, fun _ => ⟨rfl, rfl⟩⟩ rfl) (zsc rfl (zsc rfl (zsc rfl (zsc rfl (zsc rfl zsn)))))
set_option maxHeartbeats 4000000 in
theorem C_X5_inLowestTerms {K : zK} (hI : zInj K) (ct : zE) (a b p : Int) (ha : 0 ≤ a ∧ a < 2147483648) (hb : 0 < b ∧ b < 16777216) (bp : zB p) : zCi K yX5_inLowestTerms cX5_inLowestTerms 4 (some .int) 1 [.int (iI a), .int (iI b), .int (iI p)] ct (fun z u => z = lowT a b p ∧ u = ct) := by
  obtain ⟨bp1, bp2⟩ := id bp
  have hg1 : 0 < Nat.gcd a.toNat b.toNat := Nat.gcd_pos_of_pos_right _ (by omega)
  have hg2 : Nat.gcd a.toNat b.toNat ≤ b.toNat := Nat.gcd_le_right _ (by omega)
  have ea : ((a.toNat : Nat) : Int) = a := by omega
  have eb : ((b.toNat : Nat) : Int) = b := by omega
  refine zCi_in hI (by decide +kernel) (Nat.le_of_ble_eq_true rfl) (fun X O hE => ?_)
  refine n_iload_n O dX5_inLowestTerms_0 rfl ?_
  refine n_iload_n O dX5_inLowestTerms_1 rfl ?_
  refine r_callS2i O ((show zCi K yX5_commonDivisor cX5_commonDivisor 6 (some .int) 0 [.int (iI a), .int (iI b)] ct _ from by have h := C_X5_commonDivisor hI ct a.toNat b.toNat (by omega) (by omega); rw [ea, eb] at h; exact h)) q_X5_231 (by decide) (by decide) (Nat.le_of_ble_eq_true rfl) dX5_inLowestTerms_2 (fun zz2 zu2 hz2 => ?_)
  obtain ⟨rfl, rfl⟩ := hz2
  refine n_istore_n O dX5_inLowestTerms_5 (by decide) rfl ?_
  refine n_iload_n O dX5_inLowestTerms_6 rfl ?_
  refine r_if_ne (tgt := 12) O ⟨by omega, by omega⟩ dX5_inLowestTerms_7 (by decide) (fun hc7 => ?_) (fun hc7 => ?_)
  · skip
    refine n_iload_n O dX5_inLowestTerms_12 rfl ?_
    refine r_if_ne (tgt := 20) O ⟨by omega, by omega⟩ dX5_inLowestTerms_13 (by decide) (fun hc13 => ?_) (fun hc13 => ?_)
    · skip
      refine n_iload_n O dX5_inLowestTerms_20 rfl ?_
      refine n_iload_n O dX5_inLowestTerms_21 rfl ?_
      refine r_idiv O (iI_ne0 (by omega) (by omega)) (iI_div (by omega) (by omega) (by omega) (by omega)) dX5_inLowestTerms_22 ?_
      exact hE _ _ _ _ dX5_inLowestTerms_23 rfl ⟨by unfold lowT; first | (exfalso; omega) | (rw [if_neg (by omega), if_pos (by omega)]; done) | (rw [if_neg (by omega), if_neg (by omega)]; done), rfl⟩
    · skip
      refine n_iload_n O dX5_inLowestTerms_16 rfl ?_
      refine r_goto (tgt := 21) O dX5_inLowestTerms_17 (by decide) ?_
      refine n_iload_n O dX5_inLowestTerms_21 rfl ?_
      refine r_idiv O (iI_ne0 (by omega) (by omega)) (iI_div (by omega) (by omega) (by omega) (by omega)) dX5_inLowestTerms_22 ?_
      exact hE _ _ _ _ dX5_inLowestTerms_23 rfl ⟨by unfold lowT; first | (exfalso; omega) | (rw [if_neg (by omega), if_pos (by omega)]; done) | (rw [if_neg (by omega), if_neg (by omega)]; done), rfl⟩
  · skip
    refine r_iconst O dX5_inLowestTerms_10 ?_
    exact hE _ _ _ _ dX5_inLowestTerms_11 rfl ⟨by unfold lowT; first | (exfalso; omega) | (rw [if_neg (by omega), if_pos (by omega)]; done) | (rw [if_neg (by omega), if_neg (by omega)]; done), rfl⟩
theorem lN_b {n : Nat} (h : n < 9223372036854775808) (h0 : 0 < n) : ¬ lN n = 0 := by
  intro q
  have q2 : lN n = lN 0 := q
  have := (pk_lEQ (a := n) (b := 0) (by omega) (by omega)).mp q2
  omega
set_option maxHeartbeats 4000000 in
theorem C_X5_draw {K : zK} (hI : zInj K) (ct : zE) (z t : Nat) (hz : z ≤ 9999) (ht : t ≤ 39) : zCi K yX5_draw cX5_draw 4 (some .int) 0 [.int (iI (z : Int)), .int (iI (t : Int))] ct (fun y u => y = drawI z t ∧ u = ct) := by
  have hxb : 7919 * z + 6151 * t + 1 < 80000000 := by omega
  have hxx : (7919 * z + 6151 * t + 1) * (7919 * z + 6151 * t + 1) ≤ 80000000 * 80000000 := Nat.mul_le_mul (by omega) (by omega)
  refine zCi_in hI (by decide +kernel) (Nat.le_of_ble_eq_true rfl) (fun X O hE => ?_)
  refine r_ldc2 O kl_X5_223 dX5_draw_0 ?_
  refine n_iload_n O dX5_draw_3 rfl ?_
  refine r_i2l O (v := lN z) (by rw [iI_n]; exact nI_l (by omega)) dX5_draw_4 ?_
  refine r_lmul O (show (7919 : Int64) * lN z = lN (7919 * z) from lN_mul 7919 z) dX5_draw_5 ?_
  refine r_ldc2 O kl_X5_225 dX5_draw_6 ?_
  refine n_iload_n O dX5_draw_9 rfl ?_
  refine r_i2l O (v := lN t) (by rw [iI_n]; exact nI_l (by omega)) dX5_draw_10 ?_
  refine r_lmul O (show (6151 : Int64) * lN t = lN (6151 * t) from lN_mul 6151 t) dX5_draw_11 ?_
  refine r_ladd O (lN_add _ _) dX5_draw_12 ?_
  refine r_lconst O (v := lN 1) rfl dX5_draw_13 ?_
  refine r_ladd O (lN_add _ _) dX5_draw_14 ?_
  refine r_lstore_n O dX5_draw_15 rfl (by decide) rfl ?_
  refine r_lload_n O dX5_draw_16 rfl zLo_0 ?_
  refine r_lload_n O dX5_draw_17 rfl zLo_0 ?_
  refine r_lmul O (lN_mul _ _) dX5_draw_18 ?_
  refine r_ldc2 O kl_X5_227 dX5_draw_19 ?_
  refine r_lrem O (by decide) (pk_lRem (b := 65521) (by omega) (by decide) (by decide)) dX5_draw_22 ?_
  refine r_ldc2 O kl_X5_229 dX5_draw_23 ?_
  refine r_ldiv O (by decide) (pk_lDiv (b := 8) (by omega) (by decide) (by decide)) dX5_draw_26 ?_
  refine r_l2i O (z := drawI z t) (by rw [lN_i]; exact (iI_n _).symm) dX5_draw_27 ?_
  exact hE _ _ _ _ dX5_draw_28 rfl ⟨rfl, rfl⟩
set_option maxHeartbeats 4000000 in
theorem C_X5_write {K : zK} (hI : zInj K) (hN : kN K = 85) (c : CS) (hc : okC c) (x : Int) (bx : zB x)  : zCi K yX5_write cX5_write 2 (some .int) 1 [.ref (kad K 0), .int (iI x)] (layC K c) (fun z u => ((x < 32 ∨ 126 < x) ∧ z = -1 ∧ u = (layC K c)) ∨ ((32 ≤ x ∧ x ≤ 126) ∧ c.2.1.2.2 < 200 ∧ z = c.2.1.2.2 + 1 ∧ u = layC K (wT c (uI c.2.1.1 c.2.1.2.2 x, c.2.1.2.1, c.2.1.2.2 + 1))) ∨ ((32 ≤ x ∧ x ≤ 126) ∧ c.2.1.2.2 = 200 ∧ z = -3 ∧ u = (layC K c))) := by
  obtain ⟨hv, ht, hnu, hw, hU, hP⟩ := id hc
  have hle := ht.1
  obtain ⟨bx1, bx2⟩ := id bx
  refine zCi_in hI (by decide +kernel) (Nat.le_of_ble_eq_true rfl) (fun X O hE => ?_)
  refine n_iload_n O dX5_write_0 rfl ?_
  refine r_bipush O (by decide +kernel) dX5_write_1 ?_
  refine r_bipush O (by decide +kernel) dX5_write_3 ?_
  refine r_callS3i O (C_X5_isOutside hI _ _ _ _ ⟨by omega, by omega⟩ ⟨by omega, by omega⟩ ⟨by omega, by omega⟩) q_X5_75 (by decide) (by decide) (Nat.le_of_ble_eq_true rfl) dX5_write_5 (fun zz5 zu5 hz5 => ?_)
  obtain ⟨hzo5, rfl⟩ := hz5
  have ho5 := outV_c hzo5
  refine r_if_eq (tgt := 13) O ⟨by omega, by omega⟩ dX5_write_8 (by decide) (fun hc8 => ?_) (fun hc8 => ?_)
  · skip
    refine n_aload_n O dX5_write_13 rfl ?_
    refine O_get_0 O hN fl_X5_10 dX5_write_14 ?_
    refine n_iload_n O dX5_write_17 rfl ?_
    refine r_i2c O (i2c_ok (by omega) (by omega)) dX5_write_18 ?_
    refine r_callV1i O ((show zCi K yX4_append cX4_append 2 (some .boolean) 0 [.ref (kad K 1), .int (iI x)] (layC K c) _ from C_X4_append hI hN c c.2.1.1 c.2.1.2.1 c.2.1.2.2 ht x (by omega))) q_X5_64 (by rw [hN]; decide) (fs := _) rfl rfl rfl (by decide) (by decide) (Nat.le_of_ble_eq_true rfl) dX5_write_19 (fun zz19 zu19 hz19 => ?_)
    have hz01 : zz19 = 0 ∨ zz19 = 1 := by rcases hz19 with ⟨_, h, _⟩ | ⟨_, h, _⟩ <;> omega
    refine r_if_eq (tgt := 35) O ⟨by omega, by omega⟩ dX5_write_22 (by decide) (fun hc22 => ?_) (fun hc22 => ?_)
    · skip
      have h19 : c.2.1.2.2 = 200 ∧ zu19 = layC K c := by rcases hz19 with ⟨_, h2, _⟩ | ⟨h1, _, h3⟩; (exfalso; omega); exact ⟨h1, h3⟩
      obtain ⟨h191, rfl⟩ := h19
      refine r_bipush O (by decide +kernel) dX5_write_35 ?_
      exact hE _ _ _ _ dX5_write_37 rfl (by first | exact Or.inr (Or.inl ⟨by omega, h191, rfl, rfl⟩) | exact Or.inr (Or.inr ⟨by omega, h191, rfl, rfl⟩))
    · skip
      have h19 : c.2.1.2.2 < 200 ∧ zu19 = layC K (wT c (uI c.2.1.1 c.2.1.2.2 x, c.2.1.2.1, c.2.1.2.2 + 1)) := by rcases hz19 with ⟨h1, _, h3⟩ | ⟨_, h2, _⟩; exact ⟨h1, h3⟩; exfalso; omega
      obtain ⟨h191, rfl⟩ := h19
      refine n_aload_n O dX5_write_25 rfl ?_
      refine O_get_0 O hN fl_X5_10 dX5_write_26 ?_
      refine A_get_T_le O hN fl_X5_79 dX5_write_29 ?_
      refine r_goto (tgt := 37) O dX5_write_32 (by decide) ?_
      exact hE _ _ _ _ dX5_write_37 rfl (by first | exact Or.inr (Or.inl ⟨by omega, h191, rfl, rfl⟩) | exact Or.inr (Or.inr ⟨by omega, h191, rfl, rfl⟩))
  · skip
    refine r_iconst O dX5_write_11 ?_
    exact hE _ _ _ _ dX5_write_12 rfl (Or.inl ⟨by omega, rfl, rfl⟩)
set_option maxHeartbeats 4000000 in
theorem C_X5_wipe {K : zK} (hI : zInj K) (hN : kN K = 85) (c : CS) (hc : okC c)  : zCi K yX5_wipe cX5_wipe 2 (some .int) 1 [.ref (kad K 0)] (layC K c) (fun z u => z = c.2.1.2.2 ∧ u = layC K (wT c (c.2.1.1, c.2.1.2.1, 0))) := by
  obtain ⟨hv, ht, hnu, hw, hU, hP⟩ := id hc
  refine zCi_in hI (by decide +kernel) (Nat.le_of_ble_eq_true rfl) (fun X O hE => ?_)
  refine n_aload_n O dX5_wipe_0 rfl ?_
  refine O_get_0 O hN fl_X5_10 dX5_wipe_1 ?_
  refine A_get_T_le O hN fl_X5_79 dX5_wipe_4 ?_
  refine n_istore_n O dX5_wipe_7 (by decide) rfl ?_
  refine n_aload_n O dX5_wipe_8 rfl ?_
  refine O_get_0 O hN fl_X5_10 dX5_wipe_9 ?_
  refine r_callV0v O (E_X4_clear hI hN _) q_X5_72 (by rw [hN]; decide) (fs := _) rfl rfl rfl (by decide) (by decide) (Nat.le_of_ble_eq_true rfl) dX5_wipe_12 (fun zu12 hz12 => ?_)
  obtain rfl := hz12
  refine n_iload_n O dX5_wipe_15 rfl ?_
  exact hE _ _ _ _ dX5_wipe_16 rfl ⟨rfl, rfl⟩
set_option maxHeartbeats 4000000 in
theorem C_X5_fault {K : zK} (hI : zInj K) (hN : kN K = 85) (c : CS) (hc : okC c)  : zCi K yX5_fault cX5_fault 1 (some .int) 5 [.ref (kad K 0)] (layC K c) (fun z u => ∃ (nu1 : Int → Int) (w : SV), okN nu1 ∧ faultP c.2.1.1 c.2.1.2.2 (c.1 1) z w ∧ u = layC K (wT (wS c 1 w) (c.2.1.1, nu1, c.2.1.2.2))) := by
  obtain ⟨hv, ht, hnu, hw, hU, hP⟩ := id hc
  refine zCi_in hI (by decide +kernel) (Nat.le_of_ble_eq_true rfl) (fun X O hE => ?_)
  refine n_aload_n O dX5_fault_0 rfl ?_
  refine O_get_0 O hN fl_X5_10 dX5_fault_1 ?_
  refine n_aload_n O dX5_fault_4 rfl ?_
  refine O_get_2 O hN fl_X5_23 dX5_fault_5 ?_
  refine r_callV1i O (E_X4_layOut hI hN _ ht hnu 1 (by decide)) q_X5_68 (by rw [hN]; decide) (fs := _) rfl rfl rfl (by decide) (by decide) (Nat.le_of_ble_eq_true rfl) dX5_fault_8 (fun zz8 zu8 hz8 => ?_)
  exact hE _ _ _ _ dX5_fault_11 rfl hz8
set_option maxHeartbeats 4000000 in
theorem C_X5_eat {K : zK} (hI : zInj K) (hN : kN K = 85) (c : CS) (hc : okC c) (n : Int) (bn : zB n)  : zCi K yX5_eat cX5_eat 3 (some .int) 5 [.ref (kad K 0), .int (iI n)] (layC K c) (fun z u => ((n < 1 ∨ 20 < n) ∧ z = -1 ∧ u = (layC K c)) ∨ ((1 ≤ n ∧ n ≤ 20) ∧ ∃ (g : Int → Nat) (m : Int), putR c g m ∧ z = qam (c.1 0) - qam (roundsV (c.1 0) n.toNat).1 ∧ u = layC K (wS (putC c g m) 0 (roundsV (c.1 0) n.toNat).1))) := by
  obtain ⟨hv, ht, hnu, hw, hU, hP⟩ := id hc
  obtain ⟨bn1, bn2⟩ := id bn
  refine zCi_in hI (by decide +kernel) (Nat.le_of_ble_eq_true rfl) (fun X O hE => ?_)
  refine n_iload_n O dX5_eat_0 rfl ?_
  refine r_iconst O dX5_eat_1 ?_
  refine r_bipush O (by decide +kernel) dX5_eat_2 ?_
  refine r_callS3i O (C_X5_isOutside hI _ _ _ _ ⟨by omega, by omega⟩ ⟨by omega, by omega⟩ ⟨by omega, by omega⟩) q_X5_75 (by decide) (by decide) (Nat.le_of_ble_eq_true rfl) dX5_eat_4 (fun zz4 zu4 hz4 => ?_)
  obtain ⟨hzo4, rfl⟩ := hz4
  have ho4 := outV_c hzo4
  refine r_if_eq (tgt := 12) O ⟨by omega, by omega⟩ dX5_eat_7 (by decide) (fun hc7 => ?_) (fun hc7 => ?_)
  · skip
    refine n_aload_n O dX5_eat_12 rfl ?_
    refine O_get_5 O hN fl_X5_45 dX5_eat_13 ?_
    refine n_aload_n O dX5_eat_16 rfl ?_
    refine O_get_1 O hN fl_X5_19 dX5_eat_17 ?_
    refine r_callV1v O (E_X0_put_U hI hN c hU) q_X5_115 (by rw [hN]; decide) (fs := _) rfl rfl rfl (by decide) (by decide) (Nat.le_of_ble_eq_true rfl) dX5_eat_20 (fun zu20 hz20 => ?_)
    obtain ⟨g, m, hpr, rfl⟩ := hz20
    have e0 := putC_0 hU hpr
    have hv' : okV ((putC c g m).1 0) := by rw [e0]; exact hv
    refine n_aload_n O dX5_eat_23 rfl ?_
    refine O_get_1 O hN fl_X5_19 dX5_eat_24 ?_
    refine t_get_am O hN (by decide) fl_X5_118 dX5_eat_27 ?_
    refine G_st (st' := .int (iI (qam (c.1 0))) :: _) (by first | rfl | rw [e0] | rw [wS_s]) ?_
    refine n_istore_n O dX5_eat_30 (by decide) rfl ?_
    refine n_aload_n O dX5_eat_31 rfl ?_
    refine O_get_1 O hN fl_X5_19 dX5_eat_32 ?_
    refine n_iload_n O dX5_eat_35 rfl ?_
    refine r_callV1i O (E_X3_eatRounds hI hN _ 0 (by decide) hv' n (by omega) (by omega)) q_X5_121 (by rw [hN]; omega) (lay_j0 K _ _) rfl rfl (by decide) (by decide) (Nat.le_of_ble_eq_true rfl) dX5_eat_36 (fun zz36 zu36 hz36 => ?_)
    rw [e0] at hz36
    obtain ⟨rfl, rfl⟩ := hz36
    refine r_pop O rfl dX5_eat_39 ?_
    refine n_iload_n O dX5_eat_40 rfl ?_
    refine n_aload_n O dX5_eat_41 rfl ?_
    refine O_get_1 O hN fl_X5_19 dX5_eat_42 ?_
    refine t_get_am O hN (by decide) fl_X5_118 dX5_eat_45 ?_
    refine G_st (st' := .int (iI (qam (roundsV (c.1 0) n.toNat).1)) :: _) (by first | rfl | rw [e0] | rw [wS_s]) ?_
    refine r_isub O dX5_eat_48 ?_
    exact hE _ _ _ _ dX5_eat_49 rfl (Or.inr ⟨by omega, g, m, hpr, rfl, rfl⟩)
  · skip
    refine r_iconst O dX5_eat_10 ?_
    exact hE _ _ _ _ dX5_eat_11 rfl (Or.inl ⟨by omega, rfl, rfl⟩)
set_option maxHeartbeats 4000000 in
theorem C_X5_salt {K : zK} (hI : zInj K) (hN : kN K = 85) (c : CS) (hc : okC c)  : zCi K yX5_salt cX5_salt 1 (some .int) 3 [.ref (kad K 0)] (layC K c) (fun z u => (9 ≤ qsa (c.1 0) ∧ z = -2 ∧ u = (layC K c)) ∨ (qsa (c.1 0) < 9 ∧ ∃ (g : Int → Nat) (m : Int), putR c g m ∧ z = qsa (saltV (c.1 0)) ∧ u = layC K (wS (putC c g m) 0 (saltV (c.1 0))))) := by
  obtain ⟨hv, ht, hnu, hw, hU, hP⟩ := id hc
  obtain ⟨hn7, ham, hhe, hsa, hro, hfa, hm⟩ := id hv
  refine zCi_in hI (by decide +kernel) (Nat.le_of_ble_eq_true rfl) (fun X O hE => ?_)
  refine n_aload_n O dX5_salt_0 rfl ?_
  refine O_get_1 O hN fl_X5_19 dX5_salt_1 ?_
  refine t_get_sa O hN (by decide) fl_X5_124 dX5_salt_4 ?_
  refine r_bipush O (by decide +kernel) dX5_salt_7 ?_
  refine r_icmp_lt (tgt := 15) O ⟨by omega, by omega⟩ ⟨by omega, by omega⟩ dX5_salt_9 (by decide) (fun hc9 => ?_) (fun hc9 => ?_)
  · skip
    refine n_aload_n O dX5_salt_15 rfl ?_
    refine O_get_5 O hN fl_X5_45 dX5_salt_16 ?_
    refine n_aload_n O dX5_salt_19 rfl ?_
    refine O_get_1 O hN fl_X5_19 dX5_salt_20 ?_
    refine r_callV1v O (E_X0_put_U hI hN c hU) q_X5_115 (by rw [hN]; decide) (fs := _) rfl rfl rfl (by decide) (by decide) (Nat.le_of_ble_eq_true rfl) dX5_salt_23 (fun zu23 hz23 => ?_)
    obtain ⟨g, m, hpr, rfl⟩ := hz23
    have e0 := putC_0 hU hpr
    have hv' : okV ((putC c g m).1 0) := by rw [e0]; exact hv
    refine n_aload_n O dX5_salt_26 rfl ?_
    refine O_get_1 O hN fl_X5_19 dX5_salt_27 ?_
    refine r_callV0v O (E_X3_putSalt hI hN _ 0 (by decide) hv') q_X5_127 (by rw [hN]; omega) (lay_j0 K _ _) rfl rfl (by decide) (by decide) (Nat.le_of_ble_eq_true rfl) dX5_salt_30 (fun zu30 hz30 => ?_)
    rw [e0] at hz30
    obtain rfl := hz30
    refine n_aload_n O dX5_salt_33 rfl ?_
    refine O_get_1 O hN fl_X5_19 dX5_salt_34 ?_
    refine t_get_sa O hN (by decide) fl_X5_124 dX5_salt_37 ?_
    refine G_st (st' := .int (iI (qsa (saltV (c.1 0)))) :: _) (by first | rfl | rw [e0] | rw [wS_s]) ?_
    exact hE _ _ _ _ dX5_salt_40 rfl (Or.inr ⟨by omega, g, m, hpr, rfl, rfl⟩)
  · skip
    refine r_bipush O (by decide +kernel) dX5_salt_12 ?_
    exact hE _ _ _ _ dX5_salt_14 rfl (Or.inl ⟨by omega, rfl, rfl⟩)
set_option maxHeartbeats 4000000 in
theorem C_X5_cook {K : zK} (hI : zInj K) (hN : kN K = 85) (c : CS) (hc : okC c) (a : Int) (ba : zB a)  : zCi K yX5_cook cX5_cook 2 (some .int) 3 [.ref (kad K 0), .int (iI a)] (layC K c) (fun z u => ((a < 1 ∨ 99 < a) ∧ z = -1 ∧ u = (layC K c)) ∨ ((1 ≤ a ∧ a ≤ 99) ∧ a ≤ qam (c.1 0) ∧ z = -2 ∧ u = (layC K c)) ∨ ((1 ≤ a ∧ a ≤ 99) ∧ qam (c.1 0) < a ∧ ∃ (g : Int → Nat) (m : Int), putR c g m ∧ z = a ∧ u = layC K (wS (putC c g m) 0 (cookV (c.1 0) a)))) := by
  obtain ⟨hv, ht, hnu, hw, hU, hP⟩ := id hc
  obtain ⟨hn7, ham, hhe, hsa, hro, hfa, hm⟩ := id hv
  obtain ⟨ba1, ba2⟩ := id ba
  refine zCi_in hI (by decide +kernel) (Nat.le_of_ble_eq_true rfl) (fun X O hE => ?_)
  refine n_iload_n O dX5_cook_0 rfl ?_
  refine r_iconst O dX5_cook_1 ?_
  refine r_bipush O (by decide +kernel) dX5_cook_2 ?_
  refine r_callS3i O (C_X5_isOutside hI _ _ _ _ ⟨by omega, by omega⟩ ⟨by omega, by omega⟩ ⟨by omega, by omega⟩) q_X5_75 (by decide) (by decide) (Nat.le_of_ble_eq_true rfl) dX5_cook_4 (fun zz4 zu4 hz4 => ?_)
  obtain ⟨hzo4, rfl⟩ := hz4
  have ho4 := outV_c hzo4
  refine r_if_eq (tgt := 12) O ⟨by omega, by omega⟩ dX5_cook_7 (by decide) (fun hc7 => ?_) (fun hc7 => ?_)
  · skip
    refine n_iload_n O dX5_cook_12 rfl ?_
    refine n_aload_n O dX5_cook_13 rfl ?_
    refine O_get_1 O hN fl_X5_19 dX5_cook_14 ?_
    refine t_get_am O hN (by decide) fl_X5_118 dX5_cook_17 ?_
    refine r_icmp_gt (tgt := 26) O ⟨by omega, by omega⟩ ⟨by omega, by omega⟩ dX5_cook_20 (by decide) (fun hc20 => ?_) (fun hc20 => ?_)
    · skip
      refine n_aload_n O dX5_cook_26 rfl ?_
      refine O_get_5 O hN fl_X5_45 dX5_cook_27 ?_
      refine n_aload_n O dX5_cook_30 rfl ?_
      refine O_get_1 O hN fl_X5_19 dX5_cook_31 ?_
      refine r_callV1v O (E_X0_put_U hI hN c hU) q_X5_115 (by rw [hN]; decide) (fs := _) rfl rfl rfl (by decide) (by decide) (Nat.le_of_ble_eq_true rfl) dX5_cook_34 (fun zu34 hz34 => ?_)
      obtain ⟨g, m, hpr, rfl⟩ := hz34
      have e0 := putC_0 hU hpr
      have hv' : okV ((putC c g m).1 0) := by rw [e0]; exact hv
      refine n_aload_n O dX5_cook_37 rfl ?_
      refine O_get_1 O hN fl_X5_19 dX5_cook_38 ?_
      refine n_iload_n O dX5_cook_41 rfl ?_
      refine r_callV1v O (E_X3_cookTo hI hN _ 0 (by decide) a) q_X5_130 (by rw [hN]; omega) (lay_j0 K _ _) rfl rfl (by decide) (by decide) (Nat.le_of_ble_eq_true rfl) dX5_cook_42 (fun zu42 hz42 => ?_)
      rw [e0] at hz42
      obtain rfl := hz42
      refine n_aload_n O dX5_cook_45 rfl ?_
      refine O_get_1 O hN fl_X5_19 dX5_cook_46 ?_
      refine t_get_am O hN (by decide) fl_X5_118 dX5_cook_49 ?_
      refine G_st (st' := .int (iI (a)) :: _) (by first | rfl | rw [e0] | rw [wS_s]) ?_
      exact hE _ _ _ _ dX5_cook_52 rfl (Or.inr (Or.inr ⟨by omega, by omega, g, m, hpr, rfl, rfl⟩))
    · skip
      refine r_bipush O (by decide +kernel) dX5_cook_23 ?_
      exact hE _ _ _ _ dX5_cook_25 rfl (Or.inr (Or.inl ⟨by omega, by omega, rfl, rfl⟩))
  · skip
    refine r_iconst O dX5_cook_10 ?_
    exact hE _ _ _ _ dX5_cook_11 rfl (Or.inl ⟨by omega, rfl, rfl⟩)
set_option maxHeartbeats 4000000 in
theorem C_X5_cool {K : zK} (hI : zInj K) (hN : kN K = 85) (c : CS) (hc : okC c)  : zCi K yX5_cool cX5_cool 1 (some .int) 3 [.ref (kad K 0)] (layC K c) (fun z u => (qhe (c.1 0) ≤ 0 ∧ z = -2 ∧ u = (layC K c)) ∨ (0 < qhe (c.1 0) ∧ ∃ (g : Int → Nat) (m : Int), putR c g m ∧ z = qhe (waitV (c.1 0)) ∧ u = layC K (wS (putC c g m) 0 (waitV (c.1 0))))) := by
  obtain ⟨hv, ht, hnu, hw, hU, hP⟩ := id hc
  obtain ⟨hn7, ham, hhe, hsa, hro, hfa, hm⟩ := id hv
  refine zCi_in hI (by decide +kernel) (Nat.le_of_ble_eq_true rfl) (fun X O hE => ?_)
  refine n_aload_n O dX5_cool_0 rfl ?_
  refine O_get_1 O hN fl_X5_19 dX5_cool_1 ?_
  refine t_get_he O hN (by decide) fl_X5_133 dX5_cool_4 ?_
  refine r_if_gt (tgt := 13) O ⟨by omega, by omega⟩ dX5_cool_7 (by decide) (fun hc7 => ?_) (fun hc7 => ?_)
  · skip
    refine n_aload_n O dX5_cool_13 rfl ?_
    refine O_get_5 O hN fl_X5_45 dX5_cool_14 ?_
    refine n_aload_n O dX5_cool_17 rfl ?_
    refine O_get_1 O hN fl_X5_19 dX5_cool_18 ?_
    refine r_callV1v O (E_X0_put_U hI hN c hU) q_X5_115 (by rw [hN]; decide) (fs := _) rfl rfl rfl (by decide) (by decide) (Nat.le_of_ble_eq_true rfl) dX5_cool_21 (fun zu21 hz21 => ?_)
    obtain ⟨g, m, hpr, rfl⟩ := hz21
    have e0 := putC_0 hU hpr
    have hv' : okV ((putC c g m).1 0) := by rw [e0]; exact hv
    refine n_aload_n O dX5_cool_24 rfl ?_
    refine O_get_1 O hN fl_X5_19 dX5_cool_25 ?_
    refine r_callV0v O (E_X3_waitOnce hI hN _ 0 (by decide) hv') q_X5_136 (by rw [hN]; omega) (lay_j0 K _ _) rfl rfl (by decide) (by decide) (Nat.le_of_ble_eq_true rfl) dX5_cool_28 (fun zu28 hz28 => ?_)
    rw [e0] at hz28
    obtain rfl := hz28
    refine n_aload_n O dX5_cool_31 rfl ?_
    refine O_get_1 O hN fl_X5_19 dX5_cool_32 ?_
    refine t_get_he O hN (by decide) fl_X5_133 dX5_cool_35 ?_
    refine G_st (st' := .int (iI (qhe (waitV (c.1 0)))) :: _) (by first | rfl | rw [e0] | rw [wS_s]) ?_
    exact hE _ _ _ _ dX5_cool_38 rfl (Or.inr ⟨by omega, g, m, hpr, rfl, rfl⟩)
  · skip
    refine r_bipush O (by decide +kernel) dX5_cool_10 ?_
    exact hE _ _ _ _ dX5_cool_12 rfl (Or.inl ⟨by omega, rfl, rfl⟩)
set_option maxHeartbeats 4000000 in
theorem C_X5_trade {K : zK} (hI : zInj K) (hN : kN K = 85) (c : CS) (hc : okC c) (i : Int) (bi : zB i) (k : Int) (bk : zB k)  : zCi K yX5_trade cX5_trade 3 (some .int) 3 [.ref (kad K 0), .int (iI i), .int (iI k)] (layC K c) (fun z u => (¬ ((0 ≤ i ∧ i < qn (c.1 0)) ∧ (0 ≤ k ∧ k < qn (c.1 0)) ∧ i ≠ k) ∧ z = -1 ∧ u = (layC K c)) ∨ (((0 ≤ i ∧ i < qn (c.1 0)) ∧ (0 ≤ k ∧ k < qn (c.1 0)) ∧ i ≠ k) ∧ ∃ (g : Int → Nat) (m : Int), putR c g m ∧ z = qsp (exchV (c.1 0) i k) i ∧ u = layC K (wS (putC c g m) 0 (exchV (c.1 0) i k)))) := by
  obtain ⟨hv, ht, hnu, hw, hU, hP⟩ := id hc
  obtain ⟨hn7, ham, hhe, hsa, hro, hfa, hm⟩ := id hv
  obtain ⟨bi1, bi2⟩ := id bi
  obtain ⟨bk1, bk2⟩ := id bk
  refine zCi_in hI (by decide +kernel) (Nat.le_of_ble_eq_true rfl) (fun X O hE => ?_)
  refine n_aload_n O dX5_trade_0 rfl ?_
  refine n_iload_n O dX5_trade_1 rfl ?_
  refine r_callV1i O (C_X5_isNoMember hI hN _ hn7 _ ⟨by omega, by omega⟩) q_X5_91 (by rw [hN]; decide) (fs := _) rfl rfl rfl (by decide) (by decide) (Nat.le_of_ble_eq_true rfl) dX5_trade_2 (fun zz2 zu2 hz2 => ?_)
  obtain ⟨hzo2, rfl⟩ := hz2
  have ho2 := outV_c hzo2
  refine r_if_ne (tgt := 21) O ⟨by omega, by omega⟩ dX5_trade_5 (by decide) (fun hc5 => ?_) (fun hc5 => ?_)
  · skip
    refine r_iconst O dX5_trade_21 ?_
    exact hE _ _ _ _ dX5_trade_22 rfl (Or.inl ⟨by omega, rfl, rfl⟩)
  · skip
    refine n_aload_n O dX5_trade_8 rfl ?_
    refine n_iload_n O dX5_trade_9 rfl ?_
    refine r_callV1i O (C_X5_isNoMember hI hN _ hn7 _ ⟨by omega, by omega⟩) q_X5_91 (by rw [hN]; decide) (fs := _) rfl rfl rfl (by decide) (by decide) (Nat.le_of_ble_eq_true rfl) dX5_trade_10 (fun zz10 zu10 hz10 => ?_)
    obtain ⟨hzo10, rfl⟩ := hz10
    have ho10 := outV_c hzo10
    refine r_if_ne (tgt := 21) O ⟨by omega, by omega⟩ dX5_trade_13 (by decide) (fun hc13 => ?_) (fun hc13 => ?_)
    · skip
      refine r_iconst O dX5_trade_21 ?_
      exact hE _ _ _ _ dX5_trade_22 rfl (Or.inl ⟨by omega, rfl, rfl⟩)
    · skip
      refine n_iload_n O dX5_trade_16 rfl ?_
      refine n_iload_n O dX5_trade_17 rfl ?_
      refine r_icmp_ne (tgt := 23) O ⟨by omega, by omega⟩ ⟨by omega, by omega⟩ dX5_trade_18 (by decide) (fun hc18 => ?_) (fun hc18 => ?_)
      · skip
        refine n_aload_n O dX5_trade_23 rfl ?_
        refine O_get_5 O hN fl_X5_45 dX5_trade_24 ?_
        refine n_aload_n O dX5_trade_27 rfl ?_
        refine O_get_1 O hN fl_X5_19 dX5_trade_28 ?_
        refine r_callV1v O (E_X0_put_U hI hN c hU) q_X5_115 (by rw [hN]; decide) (fs := _) rfl rfl rfl (by decide) (by decide) (Nat.le_of_ble_eq_true rfl) dX5_trade_31 (fun zu31 hz31 => ?_)
        obtain ⟨g, m, hpr, rfl⟩ := hz31
        have e0 := putC_0 hU hpr
        have hv' : okV ((putC c g m).1 0) := by rw [e0]; exact hv
        refine n_aload_n O dX5_trade_34 rfl ?_
        refine O_get_1 O hN fl_X5_19 dX5_trade_35 ?_
        refine n_iload_n O dX5_trade_38 rfl ?_
        refine n_iload_n O dX5_trade_39 rfl ?_
        refine r_callV2v O (E_X3_exchangeSpoons hI hN _ 0 (by decide) hv' i k (by omega) (by rw [e0]; omega) (by omega) (by rw [e0]; omega)) q_X5_139 (by rw [hN]; omega) (lay_j0 K _ _) rfl rfl (by decide) (by decide) (Nat.le_of_ble_eq_true rfl) dX5_trade_40 (fun zu40 hz40 => ?_)
        rw [e0] at hz40
        obtain rfl := hz40
        refine n_aload_n O dX5_trade_43 rfl ?_
        refine O_get_1 O hN fl_X5_19 dX5_trade_44 ?_
        refine t_arr_sp O hN (by decide) fl_X5_99 dX5_trade_47 ?_
        refine n_iload_n O dX5_trade_50 rfl ?_
        refine t_ld_sp O hN (by decide) (by omega) (by omega) dX5_trade_51 ?_
        refine G_st (st' := .int (iI (qsp (exchV (c.1 0) i k) i)) :: _) (by first | rfl | rw [e0] | rw [wS_s]) ?_
        exact hE _ _ _ _ dX5_trade_52 rfl (Or.inr ⟨by omega, g, m, hpr, rfl, rfl⟩)
      · skip
        refine r_iconst O dX5_trade_21 ?_
        exact hE _ _ _ _ dX5_trade_22 rfl (Or.inl ⟨by omega, rfl, rfl⟩)
set_option maxHeartbeats 4000000 in
theorem C_X5_fast {K : zK} (hI : zInj K) (hN : kN K = 85) (c : CS) (hc : okC c)  : zCi K yX5_fast cX5_fast 1 (some .int) 3 [.ref (kad K 0)] (layC K c) (fun z u => ∃ (g : Int → Nat) (m : Int), putR c g m ∧ z = sumI (qhu (fastV (c.1 0))) (qn (c.1 0)).toNat ∧ u = layC K (wS (putC c g m) 0 (fastV (c.1 0)))) := by
  obtain ⟨hv, ht, hnu, hw, hU, hP⟩ := id hc
  obtain ⟨hn7, ham, hhe, hsa, hro, hfa, hm⟩ := id hv
  refine zCi_in hI (by decide +kernel) (Nat.le_of_ble_eq_true rfl) (fun X O hE => ?_)
  refine n_aload_n O dX5_fast_0 rfl ?_
  refine O_get_5 O hN fl_X5_45 dX5_fast_1 ?_
  refine n_aload_n O dX5_fast_4 rfl ?_
  refine O_get_1 O hN fl_X5_19 dX5_fast_5 ?_
  refine r_callV1v O (E_X0_put_U hI hN c hU) q_X5_115 (by rw [hN]; decide) (fs := _) rfl rfl rfl (by decide) (by decide) (Nat.le_of_ble_eq_true rfl) dX5_fast_8 (fun zu8 hz8 => ?_)
  obtain ⟨g, m, hpr, rfl⟩ := hz8
  have e0 := putC_0 hU hpr
  have hv' : okV ((putC c g m).1 0) := by rw [e0]; exact hv
  refine n_aload_n O dX5_fast_11 rfl ?_
  refine O_get_1 O hN fl_X5_19 dX5_fast_12 ?_
  refine r_callV0v O (E_X3_fastDay hI hN _ 0 (by decide) hv') q_X5_143 (by rw [hN]; omega) (lay_j0 K _ _) rfl rfl (by decide) (by decide) (Nat.le_of_ble_eq_true rfl) dX5_fast_15 (fun zu15 hz15 => ?_)
  rw [e0] at hz15
  obtain rfl := hz15
  refine n_aload_n O dX5_fast_18 rfl ?_
  refine O_get_1 O hN fl_X5_19 dX5_fast_19 ?_
  refine r_callV0i O (D_X3_hungerOfAll hI hN _ 0 (by decide) _ (okV_fastV hv)) q_X5_146 (by rw [hN]; omega) (lay_j0 K _ _) rfl rfl (by decide) (by decide) (Nat.le_of_ble_eq_true rfl) dX5_fast_22 (fun zz22 zu22 hz22 => ?_)
  obtain ⟨rfl, rfl⟩ := hz22
  exact hE _ _ _ _ dX5_fast_25 rfl ⟨g, m, hpr, rfl, rfl⟩
set_option maxHeartbeats 4000000 in
theorem C_X5_undo {K : zK} (hI : zInj K) (hN : kN K = 85) (c : CS) (hc : okC c)  : zCi K yX5_undo cX5_undo 1 (some .int) 3 [.ref (kad K 0)] (layC K c) (fun z u => (1 ≤ c.2.2.2.2.1.2 ∧ z = c.2.2.2.2.1.2 - 1 ∧ u = layC K (wU (wS c 0 (cpV (c.1 (c.2.2.2.2.1.1 (c.2.2.2.2.1.2 - 1))) (c.1 0))) (c.2.2.2.2.1.1, c.2.2.2.2.1.2 - 1))) ∨ (¬ 1 ≤ c.2.2.2.2.1.2 ∧ z = -2 ∧ u = (layC K c))) := by
  obtain ⟨hv, ht, hnu, hw, hU, hP⟩ := id hc
  refine zCi_in hI (by decide +kernel) (Nat.le_of_ble_eq_true rfl) (fun X O hE => ?_)
  refine n_aload_n O dX5_undo_0 rfl ?_
  refine O_get_5 O hN fl_X5_45 dX5_undo_1 ?_
  refine n_aload_n O dX5_undo_4 rfl ?_
  refine O_get_1 O hN fl_X5_19 dX5_undo_5 ?_
  refine r_callV1i O (E_X0_takeLast_U hI hN c hU) q_X5_149 (by rw [hN]; decide) (fs := _) rfl rfl rfl (by decide) (by decide) (Nat.le_of_ble_eq_true rfl) dX5_undo_8 (fun zz8 zu8 hz8 => ?_)
  have hz01 : zz8 = 0 ∨ zz8 = 1 := by rcases hz8 with ⟨_, h, _⟩ | ⟨_, h, _⟩ <;> omega
  refine r_if_eq (tgt := 24) O ⟨by omega, by omega⟩ dX5_undo_11 (by decide) (fun hc11 => ?_) (fun hc11 => ?_)
  · skip
    have h8 : ¬ 1 ≤ c.2.2.2.2.1.2 ∧ zu8 = layC K c := by rcases hz8 with ⟨_, h2, _⟩ | ⟨h1, _, h3⟩; (exfalso; omega); exact ⟨h1, h3⟩
    obtain ⟨h81, rfl⟩ := h8
    refine r_bipush O (by decide +kernel) dX5_undo_24 ?_
    exact hE _ _ _ _ dX5_undo_26 rfl (by first | exact Or.inl ⟨h81, rfl, rfl⟩ | exact Or.inr ⟨h81, rfl, rfl⟩)
  · skip
    have h8 : 1 ≤ c.2.2.2.2.1.2 ∧ zu8 = layC K (wU (wS c 0 (cpV (c.1 (c.2.2.2.2.1.1 (c.2.2.2.2.1.2 - 1))) (c.1 0))) (c.2.2.2.2.1.1, c.2.2.2.2.1.2 - 1)) := by rcases hz8 with ⟨h1, _, h3⟩ | ⟨_, h2, _⟩; exact ⟨h1, h3⟩; exfalso; omega
    obtain ⟨h81, rfl⟩ := h8
    refine n_aload_n O dX5_undo_14 rfl ?_
    refine O_get_5 O hN fl_X5_45 dX5_undo_15 ?_
    refine A_get_U_my O hN fl_X5_153 dX5_undo_18 ?_
    refine r_goto (tgt := 26) O dX5_undo_21 (by decide) ?_
    exact hE _ _ _ _ dX5_undo_26 rfl (by first | exact Or.inl ⟨h81, rfl, rfl⟩ | exact Or.inr ⟨h81, rfl, rfl⟩)
theorem eqS_1 {c : CS} (hnu : okN c.2.1.2.1) (v : SV) : eqS c (wS c 1 v) := ⟨fun j hj => upS_n _ _ hj, rfl, rfl, hnu, rfl⟩
theorem eqS_2 {c : CS} (hnu : okN c.2.1.2.1) (x : (Int → Int) × Int × Int) : eqS c (wE c x) := ⟨fun _ _ => rfl, rfl, rfl, hnu, rfl⟩
theorem eqS_0 {c : CS} (hnu : okN c.2.1.2.1) : eqS c c := ⟨fun _ _ => rfl, rfl, rfl, hnu, rfl⟩
set_option maxHeartbeats 4000000 in
theorem C_X5_passes {K : zK} (hI : zInj K) (hN : kN K = 85) (c : CS) (hc : okC c)  : zCi K yX5_passes cX5_passes 1 (some .int) 5 [.ref (kad K 0)] (layC K c) (fun z u => untilP (c.1 0) z ∧ ∃ d : CS, eqS c d ∧ u = layC K d) := by
  obtain ⟨hv, ht, hnu, hw, hU, hP⟩ := id hc
  obtain ⟨hn7, ham, hhe, hsa, hro, hfa, hm⟩ := id hv
  refine zCi_in hI (by decide +kernel) (Nat.le_of_ble_eq_true rfl) (fun X O hE => ?_)
  refine n_aload_n O dX5_passes_0 rfl ?_
  refine O_get_2 O hN fl_X5_23 dX5_passes_1 ?_
  refine n_aload_n O dX5_passes_4 rfl ?_
  refine O_get_1 O hN fl_X5_19 dX5_passes_5 ?_
  refine r_callV1v O (E_X3_takeOver hI hN c 1 (by decide) 0 (by decide) (by decide)) q_X5_85 (by rw [hN]; omega) (lay_j0 K _ _) rfl rfl (by decide) (by decide) (Nat.le_of_ble_eq_true rfl) dX5_passes_8 (fun zu8 hz8 => ?_)
  obtain rfl := hz8
  have hq1 := eqv_cpV (c.1 0) (c.1 1)
  have hv1 := eqv_okV hq1 hv
  refine n_aload_n O dX5_passes_11 rfl ?_
  refine O_get_2 O hN fl_X5_23 dX5_passes_12 ?_
  refine r_callV0i O (D_X3_roundsUntilEmpty hI hN c 1 (by decide) (cpV (c.1 0) (c.1 1)) hv1) q_X5_156 (by rw [hN]; omega) (lay_j0 K _ _) rfl rfl (by decide) (by decide) (Nat.le_of_ble_eq_true rfl) dX5_passes_15 (fun zz15 zu15 hz15 => ?_)
  obtain ⟨huz, w, rfl⟩ := hz15
  exact hE _ _ _ _ dX5_passes_18 rfl ⟨untilP_eqv hq1 (by omega) huz, _, eqS_1 hnu _, rfl⟩
set_option maxHeartbeats 4000000 in
theorem C_X5_left {K : zK} (hI : zInj K) (hN : kN K = 85) (c : CS) (hc : okC c) (n : Int) (bn : zB n)  : zCi K yX5_left cX5_left 2 (some .int) 5 [.ref (kad K 0), .int (iI n)] (layC K c) (fun z u => ((n < 0 ∨ 20 < n) ∧ z = -1 ∧ u = (layC K c)) ∨ ((0 ≤ n ∧ n ≤ 20) ∧ z = qam (roundsV (c.1 0) n.toNat).1 ∧ ∃ d : CS, eqS c d ∧ u = layC K d)) := by
  obtain ⟨hv, ht, hnu, hw, hU, hP⟩ := id hc
  obtain ⟨hn7, ham, hhe, hsa, hro, hfa, hm⟩ := id hv
  obtain ⟨bn1, bn2⟩ := id bn
  refine zCi_in hI (by decide +kernel) (Nat.le_of_ble_eq_true rfl) (fun X O hE => ?_)
  refine n_iload_n O dX5_left_0 rfl ?_
  refine r_iconst O dX5_left_1 ?_
  refine r_bipush O (by decide +kernel) dX5_left_2 ?_
  refine r_callS3i O (C_X5_isOutside hI _ _ _ _ ⟨by omega, by omega⟩ ⟨by omega, by omega⟩ ⟨by omega, by omega⟩) q_X5_75 (by decide) (by decide) (Nat.le_of_ble_eq_true rfl) dX5_left_4 (fun zz4 zu4 hz4 => ?_)
  obtain ⟨hzo4, rfl⟩ := hz4
  have ho4 := outV_c hzo4
  refine r_if_eq (tgt := 12) O ⟨by omega, by omega⟩ dX5_left_7 (by decide) (fun hc7 => ?_) (fun hc7 => ?_)
  · skip
    refine n_aload_n O dX5_left_12 rfl ?_
    refine O_get_2 O hN fl_X5_23 dX5_left_13 ?_
    refine n_aload_n O dX5_left_16 rfl ?_
    refine O_get_1 O hN fl_X5_19 dX5_left_17 ?_
    refine r_callV1v O (E_X3_takeOver hI hN c 1 (by decide) 0 (by decide) (by decide)) q_X5_85 (by rw [hN]; omega) (lay_j0 K _ _) rfl rfl (by decide) (by decide) (Nat.le_of_ble_eq_true rfl) dX5_left_20 (fun zu20 hz20 => ?_)
    obtain rfl := hz20
    have hq1 := eqv_cpV (c.1 0) (c.1 1)
    have hv1 := eqv_okV hq1 hv
    refine n_aload_n O dX5_left_23 rfl ?_
    refine O_get_2 O hN fl_X5_23 dX5_left_24 ?_
    refine n_iload_n O dX5_left_27 rfl ?_
    refine r_callV1i O (D_X3_eatRounds hI hN c 1 (by decide) (cpV (c.1 0) (c.1 1)) hv1 n (by omega) (by omega)) q_X5_121 (by rw [hN]; omega) (lay_j0 K _ _) rfl rfl (by decide) (by decide) (Nat.le_of_ble_eq_true rfl) dX5_left_28 (fun zz28 zu28 hz28 => ?_)
    obtain ⟨rfl, rfl⟩ := hz28
    refine r_pop O rfl dX5_left_31 ?_
    refine n_aload_n O dX5_left_32 rfl ?_
    refine O_get_2 O hN fl_X5_23 dX5_left_33 ?_
    refine t_get_am O hN (by decide) fl_X5_118 dX5_left_36 ?_
    refine G_st (st' := .int (iI (qam (roundsV (c.1 0) n.toNat).1)) :: _) (by rw [wS_s, (eqv_roundsV hq1 (by omega) n.toNat).1.2.1]) ?_
    exact hE _ _ _ _ dX5_left_39 rfl (Or.inr ⟨by omega, rfl, _, eqS_1 hnu _, rfl⟩)
  · skip
    refine r_iconst O dX5_left_10 ?_
    exact hE _ _ _ _ dX5_left_11 rfl (Or.inl ⟨by omega, rfl, rfl⟩)
set_option maxHeartbeats 4000000 in
theorem C_X5_scraper {K : zK} (hI : zInj K) (hN : kN K = 85) (c : CS) (hc : okC c)  : zCi K yX5_scraper cX5_scraper 1 (some .int) 5 [.ref (kad K 0)] (layC K c) (fun z u => z = (roundsV (c.1 0) (qro (c.1 0)).toNat).2 ∧ ∃ d : CS, eqS c d ∧ u = layC K d) := by
  obtain ⟨hv, ht, hnu, hw, hU, hP⟩ := id hc
  obtain ⟨hn7, ham, hhe, hsa, hro, hfa, hm⟩ := id hv
  refine zCi_in hI (by decide +kernel) (Nat.le_of_ble_eq_true rfl) (fun X O hE => ?_)
  refine n_aload_n O dX5_scraper_0 rfl ?_
  refine O_get_2 O hN fl_X5_23 dX5_scraper_1 ?_
  refine n_aload_n O dX5_scraper_4 rfl ?_
  refine O_get_1 O hN fl_X5_19 dX5_scraper_5 ?_
  refine r_callV1v O (E_X3_takeOver hI hN c 1 (by decide) 0 (by decide) (by decide)) q_X5_85 (by rw [hN]; omega) (lay_j0 K _ _) rfl rfl (by decide) (by decide) (Nat.le_of_ble_eq_true rfl) dX5_scraper_8 (fun zu8 hz8 => ?_)
  obtain rfl := hz8
  have hq1 := eqv_cpV (c.1 0) (c.1 1)
  have hv1 := eqv_okV hq1 hv
  refine n_aload_n O dX5_scraper_11 rfl ?_
  refine O_get_2 O hN fl_X5_23 dX5_scraper_12 ?_
  refine n_aload_n O dX5_scraper_15 rfl ?_
  refine O_get_1 O hN fl_X5_19 dX5_scraper_16 ?_
  refine t_get_ro O hN (by decide) fl_X5_159 dX5_scraper_19 ?_
  refine G_st (st' := .int (iI (qro (c.1 0))) :: _) rfl ?_
  refine r_callV1i O (D_X3_eatRounds hI hN c 1 (by decide) (cpV (c.1 0) (c.1 1)) hv1 (qro (c.1 0)) (by omega) (by omega)) q_X5_121 (by rw [hN]; omega) (lay_j0 K _ _) rfl rfl (by decide) (by decide) (Nat.le_of_ble_eq_true rfl) dX5_scraper_22 (fun zz22 zu22 hz22 => ?_)
  obtain ⟨rfl, rfl⟩ := hz22
  exact hE _ _ _ _ dX5_scraper_25 rfl ⟨(eqv_roundsV hq1 (by omega) _).2, _, eqS_1 hnu _, rfl⟩
set_option maxHeartbeats 4000000 in
theorem C_X5_spoil {K : zK} (hI : zInj K) (hN : kN K = 85) (c : CS) (hc : okC c)  : zCi K yX5_spoil cX5_spoil 2 (some .int) 5 [.ref (kad K 0)] (layC K c) (fun z u => spoilP (c.1 0) z ∧ ∃ d : CS, eqS c d ∧ u = layC K d) := by
  obtain ⟨hv, ht, hnu, hw, hU, hP⟩ := id hc
  obtain ⟨hn7, ham, hhe, hsa, hro, hfa, hm⟩ := id hv
  refine zCi_in hI (by decide +kernel) (Nat.le_of_ble_eq_true rfl) (fun X O hE => ?_)
  refine n_aload_n O dX5_spoil_0 rfl ?_
  refine O_get_2 O hN fl_X5_23 dX5_spoil_1 ?_
  refine n_aload_n O dX5_spoil_4 rfl ?_
  refine O_get_1 O hN fl_X5_19 dX5_spoil_5 ?_
  refine r_callV1v O (E_X3_takeOver hI hN c 1 (by decide) 0 (by decide) (by decide)) q_X5_85 (by rw [hN]; omega) (lay_j0 K _ _) rfl rfl (by decide) (by decide) (Nat.le_of_ble_eq_true rfl) dX5_spoil_8 (fun zu8 hz8 => ?_)
  obtain rfl := hz8
  have hq1 := eqv_cpV (c.1 0) (c.1 1)
  have hv1 := eqv_okV hq1 hv
  refine r_iconst O dX5_spoil_11 ?_
  refine n_istore_n O dX5_spoil_12 (by decide) rfl ?_
  have L13 : ∀ (zk : Nat) (k : Nat) (w : SV), ((k : Int) ≤ 10 - qsa (c.1 0) ∧ eqv (saV w (qsa (c.1 0))) (c.1 0) ∧ ∀ m : Nat, m < k → passI (saV (c.1 0) (qsa (c.1 0) + (m : Int))) = 1) → 10 - k = zk → G K X 2 13 [(0, .ref (kad K 0)), (1, .int (iI (k : Int)))] [] (layC K (wS c 1 w)) := by
    intro zk
    induction zk using Nat.strongRecOn with
    | ind zk ih13 =>
      intro k w hinv hk
      obtain ⟨hk, hqw, hq⟩ := hinv
      refine n_aload_n O dX5_spoil_13 rfl ?_
      refine O_get_1 O hN fl_X5_19 dX5_spoil_14 ?_
      refine t_get_sa O hN (by decide) fl_X5_124 dX5_spoil_17 ?_
      refine G_st (st' := .int (iI (qsa (c.1 0))) :: _) rfl ?_
      refine n_iload_n O dX5_spoil_20 rfl ?_
      refine r_iadd O dX5_spoil_21 ?_
      refine r_bipush O (by decide +kernel) dX5_spoil_22 ?_
      refine r_icmp_gt (tgt := 61) O ⟨by omega, by omega⟩ ⟨by omega, by omega⟩ dX5_spoil_24 (by decide) (fun hc24 => ?_) (fun hc24 => ?_)
      · skip
        refine r_bipush O (by decide +kernel) dX5_spoil_61 ?_
        exact hE _ _ _ _ dX5_spoil_63 rfl ⟨Or.inr ⟨fun m hm => hq m (by omega), rfl⟩, _, eqS_1 hnu _, rfl⟩
      · skip
        refine n_aload_n O dX5_spoil_27 rfl ?_
        refine O_get_2 O hN fl_X5_23 dX5_spoil_28 ?_
        refine n_aload_n O dX5_spoil_31 rfl ?_
        refine O_get_1 O hN fl_X5_19 dX5_spoil_32 ?_
        refine t_get_sa O hN (by decide) fl_X5_124 dX5_spoil_35 ?_
        refine G_st (st' := .int (iI (qsa (c.1 0))) :: _) rfl ?_
        refine n_iload_n O dX5_spoil_38 rfl ?_
        refine r_iadd O dX5_spoil_39 ?_
        refine v_put_sa O hN (by decide) fl_X5_124 dX5_spoil_40 ?_
        refine n_aload_n O dX5_spoil_43 rfl ?_
        refine O_get_2 O hN fl_X5_23 dX5_spoil_44 ?_
        refine r_callV0i O (D_X3_wouldPass hI hN c 1 (by decide) _ (eqv_okV (eqv_saV hqw _) (okV_saV hv (x := qsa (c.1 0) + (k : Int)) (by omega) (by omega)))) q_X5_162 (by rw [hN]; omega) (lay_j0 K _ _) rfl rfl (by decide) (by decide) (Nat.le_of_ble_eq_true rfl) dX5_spoil_47 (fun zz47 zu47 hz47 => ?_)
        obtain ⟨rfl, rfl⟩ := hz47
        have hps : passI (saV w (qsa (c.1 0) + (k : Int))) = passI (saV (c.1 0) (qsa (c.1 0) + (k : Int))) := passI_eqv (eqv_saV hqw (qsa (c.1 0) + (k : Int))) (by show qn (c.1 0) ≤ 7; omega)
        have h01 := passI_01 (saV (c.1 0) (qsa (c.1 0) + (k : Int)))
        refine r_if_ne (tgt := 55) O ⟨by omega, by omega⟩ dX5_spoil_50 (by decide) (fun hc50 => ?_) (fun hc50 => ?_)
        · skip
          refine n_iinc O dX5_spoil_55 (by decide) rfl rfl ?_
          refine r_goto (tgt := 13) O dX5_spoil_58 (by decide) ?_
          exact G_chk (ih13 _ (by omega) (k + 1) (saV w (qsa (c.1 0) + (k : Int))) ⟨by omega, hqw, fun m hm => by by_cases e : m = k; (rw [e]; omega); exact hq m (by omega)⟩ rfl) (zsc rfl (zsc rfl zsn))
        · skip
          refine n_iload_n O dX5_spoil_53 rfl ?_
          exact hE _ _ _ _ dX5_spoil_54 rfl ⟨Or.inl ⟨k, by omega, by omega, hq, rfl⟩, _, eqS_1 hnu _, rfl⟩
  exact G_chk (L13 _ 0 (cpV (c.1 0) (c.1 1)) ⟨by omega, ⟨hq1.1, hq1.2.1, hq1.2.2.1, rfl, hq1.2.2.2.2⟩, fun m hm => by omega⟩ rfl) (zsc rfl (zsc rfl zsn))
set_option maxHeartbeats 4000000 in
theorem C_X5_waits {K : zK} (hI : zInj K) (hN : kN K = 85) (c : CS) (hc : okC c)  : zCi K yX5_waits cX5_waits 2 (some .int) 5 [.ref (kad K 0)] (layC K c) (fun z u => waitsP (c.1 0) z ∧ ∃ d : CS, eqS c d ∧ u = layC K d) := by
  obtain ⟨hv, ht, hnu, hw, hU, hP⟩ := id hc
  obtain ⟨hn7, ham, hhe, hsa, hro, hfa, hm⟩ := id hv
  refine zCi_in hI (by decide +kernel) (Nat.le_of_ble_eq_true rfl) (fun X O hE => ?_)
  refine n_aload_n O dX5_waits_0 rfl ?_
  refine O_get_2 O hN fl_X5_23 dX5_waits_1 ?_
  refine n_aload_n O dX5_waits_4 rfl ?_
  refine O_get_1 O hN fl_X5_19 dX5_waits_5 ?_
  refine r_callV1v O (E_X3_takeOver hI hN c 1 (by decide) 0 (by decide) (by decide)) q_X5_85 (by rw [hN]; omega) (lay_j0 K _ _) rfl rfl (by decide) (by decide) (Nat.le_of_ble_eq_true rfl) dX5_waits_8 (fun zu8 hz8 => ?_)
  obtain rfl := hz8
  have hq1 := eqv_cpV (c.1 0) (c.1 1)
  have hv1 := eqv_okV hq1 hv
  refine r_iconst O dX5_waits_11 ?_
  refine n_istore_n O dX5_waits_12 (by decide) rfl ?_
  refine G_ct (ct' := layC K (wS c 1 (heV (cpV (c.1 0) (c.1 1)) (max (qhe (c.1 0) - ((0 : Nat) : Int)) 0)))) (by have e : max (qhe (c.1 0) - ((0 : Nat) : Int)) 0 = qhe (c.1 0) := (by omega); rw [e]; rfl) ?_
  have L13 : ∀ (zk : Nat) (k : Nat), (k ≤ 10 ∧ ∀ m : Nat, m < k → passI (heV (c.1 0) (max (qhe (c.1 0) - ((m : Nat) : Int)) 0)) = 0) → 10 - k = zk → G K X 2 13 [(0, .ref (kad K 0)), (1, .int (iI (k : Int)))] [] (layC K (wS c 1 (heV (cpV (c.1 0) (c.1 1)) (max (qhe (c.1 0) - ((k : Nat) : Int)) 0)))) := by
    intro zk
    induction zk using Nat.strongRecOn with
    | ind zk ih13 =>
      intro k hinv hk
      obtain ⟨hk, hq⟩ := hinv
      refine n_iload_n O dX5_waits_13 rfl ?_
      refine r_bipush O (by decide +kernel) dX5_waits_14 ?_
      refine r_icmp_gt (tgt := 44) O ⟨by omega, by omega⟩ ⟨by omega, by omega⟩ dX5_waits_16 (by decide) (fun hc16 => ?_) (fun hc16 => ?_)
      · skip
        refine r_bipush O (by decide +kernel) dX5_waits_44 ?_
        exact hE _ _ _ _ dX5_waits_46 rfl ⟨Or.inr ⟨fun m hm => hq m (by omega), rfl⟩, _, eqS_1 hnu _, rfl⟩
      · skip
        refine n_aload_n O dX5_waits_19 rfl ?_
        refine O_get_2 O hN fl_X5_23 dX5_waits_20 ?_
        refine r_callV0i O (D_X3_wouldPass hI hN c 1 (by decide) _ (okV_heV hv1 (by omega) (by omega))) q_X5_162 (by rw [hN]; omega) (lay_j0 K _ _) rfl rfl (by decide) (by decide) (Nat.le_of_ble_eq_true rfl) dX5_waits_23 (fun zz23 zu23 hz23 => ?_)
        obtain ⟨rfl, rfl⟩ := hz23
        have hps : passI (heV (cpV (c.1 0) (c.1 1)) (max (qhe (c.1 0) - ((k : Nat) : Int)) 0)) = passI (heV (c.1 0) (max (qhe (c.1 0) - ((k : Nat) : Int)) 0)) := passI_eqv (eqv_heV hq1 _) (by show qn (c.1 0) ≤ 7; omega)
        have h01 := passI_01 (heV (c.1 0) (max (qhe (c.1 0) - ((k : Nat) : Int)) 0))
        refine r_if_eq (tgt := 31) O ⟨by omega, by omega⟩ dX5_waits_26 (by decide) (fun hc26 => ?_) (fun hc26 => ?_)
        · skip
          refine n_aload_n O dX5_waits_31 rfl ?_
          refine O_get_2 O hN fl_X5_23 dX5_waits_32 ?_
          refine r_callV0v O (D_X3_waitOnce hI hN c 1 (by decide) _ (okV_heV hv1 (by omega) (by omega))) q_X5_136 (by rw [hN]; omega) (lay_j0 K _ _) rfl rfl (by decide) (by decide) (Nat.le_of_ble_eq_true rfl) dX5_waits_35 (fun zu35 hz35 => ?_)
          obtain rfl := hz35
          refine n_iinc O dX5_waits_38 (by decide) rfl rfl ?_
          refine r_goto (tgt := 13) O dX5_waits_41 (by decide) ?_
          refine G_ct (ct' := layC K (wS c 1 (heV (cpV (c.1 0) (c.1 1)) (max (qhe (c.1 0) - ((k + 1 : Nat) : Int)) 0)))) (by show layC K (wS c 1 (heV (cpV (c.1 0) (c.1 1)) (max (max (qhe (c.1 0) - (k : Int)) 0 - 1) 0))) = _; rw [show max (max (qhe (c.1 0) - (k : Int)) 0 - 1) 0 = max (qhe (c.1 0) - ((k + 1 : Nat) : Int)) 0 by omega]) ?_
          exact G_chk (ih13 _ (by omega) (k + 1) ⟨by omega, fun m hm => by by_cases e : m = k; (rw [e]; omega); exact hq m (by omega)⟩ rfl) (zsc rfl (zsc rfl zsn))
        · skip
          refine n_iload_n O dX5_waits_29 rfl ?_
          exact hE _ _ _ _ dX5_waits_30 rfl ⟨Or.inl ⟨k, by omega, by omega, hq, rfl⟩, _, eqS_1 hnu _, rfl⟩
  exact G_chk (L13 _ 0 ⟨by omega, fun m hm => by omega⟩ rfl) (zsc rfl (zsc rfl zsn))
set_option maxHeartbeats 4000000 in
theorem C_X5_most {K : zK} (hI : zInj K) (hN : kN K = 85) (c : CS) (hc : okC c)  : zCi K yX5_most cX5_most 1 (some .int) 4 [.ref (kad K 0)] (layC K c) (fun z u => z = min 99 (reachA (c.1 0) (qn (c.1 0)).toNat) ∧ ∃ d : CS, eqS c d ∧ u = layC K d) := by
  obtain ⟨hv, ht, hnu, hw, hU, hP⟩ := id hc
  obtain ⟨hn7, ham, hhe, hsa, hro, hfa, hm⟩ := id hv
  refine zCi_in hI (by decide +kernel) (Nat.le_of_ble_eq_true rfl) (fun X O hE => ?_)
  refine r_bipush O (by decide +kernel) dX5_most_0 ?_
  refine n_aload_n O dX5_most_2 rfl ?_
  refine O_get_1 O hN fl_X5_19 dX5_most_3 ?_
  refine r_callV0i O (E_X3_reachOfAll hI hN c 0 (by decide) hv) q_X5_166 (by rw [hN]; omega) (lay_j0 K _ _) rfl rfl (by decide) (by decide) (Nat.le_of_ble_eq_true rfl) dX5_most_6 (fun zz6 zu6 hz6 => ?_)
  obtain ⟨rfl, rfl⟩ := hz6
  have hra := reachA_b hv (qn (c.1 0)).toNat (by omega)
  refine r_min O qm_X5_169 (by decide) (Nat.le_of_ble_eq_true rfl) ⟨by omega, by omega⟩ ⟨by omega, by omega⟩ dX5_most_9 ?_
  exact hE _ _ _ _ dX5_most_12 rfl ⟨rfl, _, eqS_0 hnu, rfl⟩
set_option maxHeartbeats 4000000 in
theorem C_X5_fasts {K : zK} (hI : zInj K) (hN : kN K = 85) (c : CS) (hc : okC c)  : zCi K yX5_fasts cX5_fasts 2 (some .int) 5 [.ref (kad K 0)] (layC K c) (fun z u => fastsP (c.1 0) z ∧ ∃ d : CS, eqS c d ∧ u = layC K d) := by
  obtain ⟨hv, ht, hnu, hw, hU, hP⟩ := id hc
  obtain ⟨hn7, ham, hhe, hsa, hro, hfa, hm⟩ := id hv
  refine zCi_in hI (by decide +kernel) (Nat.le_of_ble_eq_true rfl) (fun X O hE => ?_)
  refine n_aload_n O dX5_fasts_0 rfl ?_
  refine O_get_2 O hN fl_X5_23 dX5_fasts_1 ?_
  refine n_aload_n O dX5_fasts_4 rfl ?_
  refine O_get_1 O hN fl_X5_19 dX5_fasts_5 ?_
  refine r_callV1v O (E_X3_takeOver hI hN c 1 (by decide) 0 (by decide) (by decide)) q_X5_85 (by rw [hN]; omega) (lay_j0 K _ _) rfl rfl (by decide) (by decide) (Nat.le_of_ble_eq_true rfl) dX5_fasts_8 (fun zu8 hz8 => ?_)
  obtain rfl := hz8
  have hq1 := eqv_cpV (c.1 0) (c.1 1)
  have hv1 := eqv_okV hq1 hv
  refine r_iconst O dX5_fasts_11 ?_
  refine n_istore_n O dX5_fasts_12 (by decide) rfl ?_
  have L13 : ∀ (zk : Nat) (k : Nat), (k ≤ 11 ∧ ∀ m : Nat, m < k → passI (fastK (c.1 0) m) = 0) → 11 - k = zk → G K X 2 13 [(0, .ref (kad K 0)), (1, .int (iI (k : Int)))] [] (layC K (wS c 1 (fastK (cpV (c.1 0) (c.1 1)) k))) := by
    intro zk
    induction zk using Nat.strongRecOn with
    | ind zk ih13 =>
      intro k hinv hk
      obtain ⟨hk, hq⟩ := hinv
      refine n_iload_n O dX5_fasts_13 rfl ?_
      refine r_bipush O (by decide +kernel) dX5_fasts_14 ?_
      refine r_icmp_gt (tgt := 44) O ⟨by omega, by omega⟩ ⟨by omega, by omega⟩ dX5_fasts_16 (by decide) (fun hc16 => ?_) (fun hc16 => ?_)
      · skip
        refine r_bipush O (by decide +kernel) dX5_fasts_44 ?_
        exact hE _ _ _ _ dX5_fasts_46 rfl ⟨Or.inr ⟨fun m hm => hq m (by omega), rfl⟩, _, eqS_1 hnu _, rfl⟩
      · skip
        refine n_aload_n O dX5_fasts_19 rfl ?_
        refine O_get_2 O hN fl_X5_23 dX5_fasts_20 ?_
        refine r_callV0i O (D_X3_wouldPass hI hN c 1 (by decide) _ (okV_fastK hv1 k)) q_X5_162 (by rw [hN]; omega) (lay_j0 K _ _) rfl rfl (by decide) (by decide) (Nat.le_of_ble_eq_true rfl) dX5_fasts_23 (fun zz23 zu23 hz23 => ?_)
        obtain ⟨rfl, rfl⟩ := hz23
        have hps : passI (fastK (cpV (c.1 0) (c.1 1)) k) = passI (fastK (c.1 0) k) := passI_eqv (eqv_fastK hq1 (by omega) k) (by rw [fastK_n]; omega)
        have h01 := passI_01 (fastK (c.1 0) k)
        refine r_if_eq (tgt := 31) O ⟨by omega, by omega⟩ dX5_fasts_26 (by decide) (fun hc26 => ?_) (fun hc26 => ?_)
        · skip
          refine n_aload_n O dX5_fasts_31 rfl ?_
          refine O_get_2 O hN fl_X5_23 dX5_fasts_32 ?_
          refine r_callV0v O (D_X3_fastDay hI hN c 1 (by decide) _ (okV_fastK hv1 k)) q_X5_143 (by rw [hN]; omega) (lay_j0 K _ _) rfl rfl (by decide) (by decide) (Nat.le_of_ble_eq_true rfl) dX5_fasts_35 (fun zu35 hz35 => ?_)
          obtain rfl := hz35
          refine n_iinc O dX5_fasts_38 (by decide) rfl rfl ?_
          refine r_goto (tgt := 13) O dX5_fasts_41 (by decide) ?_
          exact G_chk (ih13 _ (by omega) (k + 1) ⟨by omega, fun m hm => by by_cases e : m = k; (rw [e]; omega); exact hq m (by omega)⟩ rfl) (zsc rfl (zsc rfl zsn))
        · skip
          refine n_iload_n O dX5_fasts_29 rfl ?_
          exact hE _ _ _ _ dX5_fasts_30 rfl ⟨Or.inl ⟨k, by omega, by omega, hq, rfl⟩, _, eqS_1 hnu _, rfl⟩
  exact G_chk (L13 _ 0 ⟨by omega, fun m hm => by omega⟩ rfl) (zsc rfl (zsc rfl zsn))
set_option maxHeartbeats 4000000 in
theorem C_X5_cabal {K : zK} (hI : zInj K) (hN : kN K = 85) (c : CS) (hc : okC c) (w : Int) (bw : zB w)  : zCi K yX5_cabal cX5_cabal 3 (some .int) 4 [.ref (kad K 0), .int (iI w)] (layC K c) (fun z u => ((w < 0 ∨ 1 < w) ∧ z = -1 ∧ u = (layC K c)) ∨ ((0 ≤ w ∧ w ≤ 1) ∧ z = cabI (c.1 0) w ∧ ∃ d : CS, eqS c d ∧ u = layC K d)) := by
  obtain ⟨hv, ht, hnu, hw, hU, hP⟩ := id hc
  obtain ⟨hn7, ham, hhe, hsa, hro, hfa, hm⟩ := id hv
  obtain ⟨bw1, bw2⟩ := id bw
  refine zCi_in hI (by decide +kernel) (Nat.le_of_ble_eq_true rfl) (fun X O hE => ?_)
  refine n_iload_n O dX5_cabal_0 rfl ?_
  refine r_iconst O dX5_cabal_1 ?_
  refine r_iconst O dX5_cabal_2 ?_
  refine r_callS3i O (C_X5_isOutside hI _ _ _ _ ⟨by omega, by omega⟩ ⟨by omega, by omega⟩ ⟨by omega, by omega⟩) q_X5_75 (by decide) (by decide) (Nat.le_of_ble_eq_true rfl) dX5_cabal_3 (fun zz3 zu3 hz3 => ?_)
  obtain ⟨hzo3, rfl⟩ := hz3
  have ho3 := outV_c hzo3
  refine r_if_eq (tgt := 11) O ⟨by omega, by omega⟩ dX5_cabal_6 (by decide) (fun hc6 => ?_) (fun hc6 => ?_)
  · skip
    refine n_aload_n O dX5_cabal_11 rfl ?_
    refine O_get_3 O hN fl_X5_29 dX5_cabal_12 ?_
    refine n_aload_n O dX5_cabal_15 rfl ?_
    refine O_get_1 O hN fl_X5_19 dX5_cabal_16 ?_
    refine r_callV1v O (E_X1_measure hI hN c hv) q_X5_175 (by rw [hN]; decide) (fs := _) rfl rfl rfl (by decide) (by decide) (Nat.le_of_ble_eq_true rfl) dX5_cabal_19 (fun zu19 hz19 => ?_)
    obtain ⟨g, hgr, rfl⟩ := hz19
    have en : qn (c.1 0) = (((qn (c.1 0)).toNat : Nat) : Int) := by omega
    refine G_ct (ct' := layC K (wE c (g, (((qn (c.1 0)).toNat : Nat) : Int), qam (c.1 0)))) (by rw [← en]) ?_
    have eL : letsI g (qn (c.1 0)).toNat (qam (c.1 0)) = letsV (c.1 0) := letsI_eq (fun i hi => hgr i (by omega))
    have hgb : ∀ i : Nat, i < (qn (c.1 0)).toNat → 0 ≤ g (i : Int) ∧ g (i : Int) ≤ 60 := fun i hi => by rw [hgr i (by omega)]; exact reachV_b hv (by omega) (by omega)
    refine n_aload_n O dX5_cabal_22 rfl ?_
    refine O_get_3 O hN fl_X5_29 dX5_cabal_23 ?_
    refine r_callV0i O (C_X1_fewest hI hN _ _ _ (qn (c.1 0)).toNat (by omega) hgb ham) q_X5_178 (by rw [hN]; decide) (fs := _) rfl rfl rfl (by decide) (by decide) (Nat.le_of_ble_eq_true rfl) dX5_cabal_26 (fun zz26 zu26 hz26 => ?_)
    rw [eL] at hz26
    obtain ⟨rfl, rfl⟩ := hz26
    have hfb := fewN_b (letsV (c.1 0)) (2 ^ (qn (c.1 0)).toNat)
    have hpw := pow_b (qn (c.1 0)).toNat (by omega)
    refine n_istore_n O dX5_cabal_29 (by decide) rfl ?_
    refine n_iload_n O dX5_cabal_30 rfl ?_
    refine r_bipush O (by decide +kernel) dX5_cabal_31 ?_
    refine r_icmp_ne (tgt := 39) O ⟨by omega, by omega⟩ ⟨by omega, by omega⟩ dX5_cabal_33 (by decide) (fun hc33 => ?_) (fun hc33 => ?_)
    · skip
      refine n_iload_n O dX5_cabal_39 rfl ?_
      refine r_if_ne (tgt := 50) O ⟨by omega, by omega⟩ dX5_cabal_40 (by decide) (fun hc40 => ?_) (fun hc40 => ?_)
      · skip
        refine n_iload_n O dX5_cabal_50 rfl ?_
        exact hE _ _ _ _ dX5_cabal_51 rfl (Or.inr ⟨by omega, by unfold cabI; rw [if_neg (by omega)]; first | rw [if_pos (by omega)] | rw [if_neg (by omega)], _, eqS_2 hnu _, rfl⟩)
      · skip
        refine n_iload_n O dX5_cabal_43 rfl ?_
        refine G_st (st' := .int (iI (((fewN (letsV (c.1 0)) (2 ^ (qn (c.1 0)).toNat)).toNat : Nat) : Int)) :: _) (by rw [Int.toNat_of_nonneg (by omega)]) ?_
        refine r_callS1i O (C_J6_bitCount_0f7a4 hI _ (fewN (letsV (c.1 0)) (2 ^ (qn (c.1 0)).toNat)).toNat (by omega)) q_X5_181 (by decide) (by decide) (Nat.le_of_ble_eq_true rfl) dX5_cabal_44 (fun zz44 zu44 hz44 => ?_)
        obtain ⟨rfl, rfl⟩ := hz44
        refine r_goto (tgt := 51) O dX5_cabal_47 (by decide) ?_
        exact hE _ _ _ _ dX5_cabal_51 rfl (Or.inr ⟨by omega, by unfold cabI; rw [if_neg (by omega)]; first | rw [if_pos (by omega)] | rw [if_neg (by omega)], _, eqS_2 hnu _, rfl⟩)
    · skip
      refine r_bipush O (by decide +kernel) dX5_cabal_36 ?_
      exact hE _ _ _ _ dX5_cabal_38 rfl (Or.inr ⟨by omega, by unfold cabI; rw [if_pos (by omega)], _, eqS_2 hnu _, rfl⟩)
  · skip
    refine r_iconst O dX5_cabal_9 ?_
    exact hE _ _ _ _ dX5_cabal_10 rfl (Or.inl ⟨by omega, rfl, rfl⟩)
set_option maxHeartbeats 4000000 in
theorem C_X5_trades {K : zK} (hI : zInj K) (hN : kN K = 85) (c : CS) (hc : okC c)  : zCi K yX5_trades cX5_trades 3 (some .int) 5 [.ref (kad K 0)] (layC K c) (fun z u => tradeP (c.1 0) z ∧ ∃ d : CS, eqS c d ∧ u = layC K d) := by
  obtain ⟨hv, ht, hnu, hw, hU, hP⟩ := id hc
  obtain ⟨hn7, ham, hhe, hsa, hro, hfa, hm⟩ := id hv
  have hp01 := passI_01 (c.1 0)
  refine zCi_in hI (by decide +kernel) (Nat.le_of_ble_eq_true rfl) (fun X O hE => ?_)
  refine n_aload_n O dX5_trades_0 rfl ?_
  refine O_get_1 O hN fl_X5_19 dX5_trades_1 ?_
  refine r_callV0i O (E_X3_wouldPass hI hN c 0 (by decide) hv) q_X5_162 (by rw [hN]; omega) (lay_j0 K _ _) rfl rfl (by decide) (by decide) (Nat.le_of_ble_eq_true rfl) dX5_trades_4 (fun zz4 zu4 hz4 => ?_)
  obtain ⟨rfl, rfl⟩ := hz4
  refine r_if_eq (tgt := 13) O ⟨by omega, by omega⟩ dX5_trades_7 (by decide) (fun hc7 => ?_) (fun hc7 => ?_)
  · skip
    refine r_iconst O dX5_trades_13 ?_
    refine n_istore_n O dX5_trades_14 (by decide) rfl ?_
    refine G_ct (ct' := layC K (wS c 1 (c.1 1))) (by rw [wS_id]) ?_
    have L15 : ∀ (zk : Nat) (i : Int) (w : SV), ((0 ≤ i ∧ i ≤ qn (c.1 0)) ∧ ∀ a b : Int, 0 ≤ a → a < b → b < qn (c.1 0) → a < i → passI (exchV (c.1 0) a b) = 0) → (7 - i).toNat = zk → G K X 3 15 [(0, .ref (kad K 0)), (1, .int (iI i))] [] (layC K (wS c 1 w)) := by
      intro zk
      induction zk using Nat.strongRecOn with
      | ind zk ih15 =>
        intro i w hinv hk
        obtain ⟨hi, hq⟩ := hinv
        refine n_iload_n O dX5_trades_15 rfl ?_
        refine n_aload_n O dX5_trades_16 rfl ?_
        refine O_get_1 O hN fl_X5_19 dX5_trades_17 ?_
        refine t_get_n O hN (by decide) fl_X5_82 dX5_trades_20 ?_
        refine G_st (st' := .int (iI (qn (c.1 0))) :: _) rfl ?_
        refine r_icmp_ge (tgt := 90) O ⟨by omega, by omega⟩ ⟨by omega, by omega⟩ dX5_trades_23 (by decide) (fun hc23 => ?_) (fun hc23 => ?_)
        · skip
          refine r_bipush O (by decide +kernel) dX5_trades_90 ?_
          exact hE _ _ _ _ dX5_trades_92 rfl ⟨Or.inr ⟨by omega, Or.inr ⟨fun a b h1 h2 h3 => hq a b h1 h2 h3 (by omega), rfl⟩⟩, _, eqS_1 hnu _, rfl⟩
        · skip
          refine n_iload_n O dX5_trades_26 rfl ?_
          refine r_iconst O dX5_trades_27 ?_
          refine r_iadd O dX5_trades_28 ?_
          refine n_istore_n O dX5_trades_29 (by decide) rfl ?_
          have L30 : ∀ (zk : Nat) (k : Int) (w : SV), ((i < k ∧ k ≤ qn (c.1 0)) ∧ ∀ b : Int, i < b → b < k → passI (exchV (c.1 0) i b) = 0) → (7 - k).toNat = zk → G K X 3 30 [(0, .ref (kad K 0)), (1, .int (iI i)), (2, .int (iI k))] [] (layC K (wS c 1 w)) := by
            intro zk
            induction zk using Nat.strongRecOn with
            | ind zk ih30 =>
              intro k w hinv hk
              obtain ⟨hk, hq2⟩ := hinv
              refine n_iload_n O dX5_trades_30 rfl ?_
              refine n_aload_n O dX5_trades_31 rfl ?_
              refine O_get_1 O hN fl_X5_19 dX5_trades_32 ?_
              refine t_get_n O hN (by decide) fl_X5_82 dX5_trades_35 ?_
              refine G_st (st' := .int (iI (qn (c.1 0))) :: _) rfl ?_
              refine r_icmp_ge (tgt := 84) O ⟨by omega, by omega⟩ ⟨by omega, by omega⟩ dX5_trades_38 (by decide) (fun hc38 => ?_) (fun hc38 => ?_)
              · skip
                refine n_iinc O dX5_trades_84 (by decide) rfl rfl ?_
                refine r_goto (tgt := 15) O dX5_trades_87 (by decide) ?_
                exact G_chk (ih15 _ (by omega) (i + 1) _ ⟨by omega, fun a b h1 h2 h3 h4 => by by_cases e : a = i; (rw [e]; rw [e] at h2; exact hq2 b h2 (by omega)); exact hq a b h1 h2 h3 (by omega)⟩ rfl) (zsc rfl (zsc rfl zsn))
              · skip
                refine n_aload_n O dX5_trades_41 rfl ?_
                refine O_get_2 O hN fl_X5_23 dX5_trades_42 ?_
                refine n_aload_n O dX5_trades_45 rfl ?_
                refine O_get_1 O hN fl_X5_19 dX5_trades_46 ?_
                refine r_callV1v O (E_X3_takeOver hI hN (wS c 1 w) 1 (by decide) 0 (by decide) (by decide)) q_X5_85 (by rw [hN]; omega) (lay_j0 K _ _) rfl rfl (by decide) (by decide) (Nat.le_of_ble_eq_true rfl) dX5_trades_49 (fun zu49 hz49 => ?_)
                rw [wS_up, wS_s, wS_n c w (by decide)] at hz49
                obtain rfl := hz49
                have hq1 := eqv_cpV (c.1 0) w
                have hv1 := eqv_okV hq1 hv
                refine n_aload_n O dX5_trades_52 rfl ?_
                refine O_get_2 O hN fl_X5_23 dX5_trades_53 ?_
                refine n_iload_n O dX5_trades_56 rfl ?_
                refine n_iload_n O dX5_trades_57 rfl ?_
                refine r_callV2v O (D_X3_exchangeSpoons hI hN c 1 (by decide) _ hv1 i k (by omega) (by show i < qn (c.1 0); omega) (by omega) (by show k < qn (c.1 0); omega)) q_X5_139 (by rw [hN]; omega) (lay_j0 K _ _) rfl rfl (by decide) (by decide) (Nat.le_of_ble_eq_true rfl) dX5_trades_58 (fun zu58 hz58 => ?_)
                obtain rfl := hz58
                refine n_aload_n O dX5_trades_61 rfl ?_
                refine O_get_2 O hN fl_X5_23 dX5_trades_62 ?_
                refine r_callV0i O (D_X3_wouldPass hI hN c 1 (by decide) _ (okV_exchV hv1 (by omega) (by show i < qn (c.1 0); omega) (by omega) (by show k < qn (c.1 0); omega))) q_X5_162 (by rw [hN]; omega) (lay_j0 K _ _) rfl rfl (by decide) (by decide) (Nat.le_of_ble_eq_true rfl) dX5_trades_65 (fun zz65 zu65 hz65 => ?_)
                obtain ⟨rfl, rfl⟩ := hz65
                have hps : passI (exchV (cpV (c.1 0) w) i k) = passI (exchV (c.1 0) i k) := passI_eqv (eqv_exchV hq1 (by omega) (by omega) (by omega) (by omega)) (by show qn (c.1 0) ≤ 7; omega)
                have h01 := passI_01 (exchV (c.1 0) i k)
                refine r_if_eq (tgt := 78) O ⟨by omega, by omega⟩ dX5_trades_68 (by decide) (fun hc68 => ?_) (fun hc68 => ?_)
                · skip
                  refine n_iinc O dX5_trades_78 (by decide) rfl rfl ?_
                  refine r_goto (tgt := 30) O dX5_trades_81 (by decide) ?_
                  exact G_chk (ih30 _ (by omega) (k + 1) _ ⟨by omega, fun b h1 h2 => by by_cases e : b = k; (rw [e]; omega); exact hq2 b h1 (by omega)⟩ rfl) (zsc rfl (zsc rfl (zsc rfl zsn)))
                · skip
                  refine r_bipush O (by decide +kernel) dX5_trades_71 ?_
                  refine n_iload_n O dX5_trades_73 rfl ?_
                  refine r_imul O dX5_trades_74 ?_
                  refine n_iload_n O dX5_trades_75 rfl ?_
                  refine r_iadd O dX5_trades_76 ?_
                  exact hE _ _ _ _ dX5_trades_77 rfl ⟨Or.inr ⟨by omega, Or.inl ⟨i, k, by omega, by omega, fun a b h1 h2 h3 h4 => by rcases h4 with h4 | ⟨h4, h5⟩; exact hq a b h1 h2 h3 h4; rw [h4]; rw [h4] at h2; exact hq2 b h2 h5, rfl⟩⟩, _, eqS_1 hnu _, rfl⟩
          exact G_chk (L30 _ (i + 1) _ ⟨by omega, fun b h1 h2 => by omega⟩ rfl) (zsc rfl (zsc rfl (zsc rfl zsn)))
    exact G_chk (L15 _ 0 (c.1 1) ⟨by omega, fun a b h1 h2 h3 h4 => by omega⟩ rfl) (zsc rfl (zsc rfl zsn))
  · skip
    refine r_bipush O (by decide +kernel) dX5_trades_10 ?_
    exact hE _ _ _ _ dX5_trades_12 rfl ⟨Or.inl ⟨by omega, rfl⟩, _, eqS_0 hnu, rfl⟩
set_option maxHeartbeats 4000000 in
theorem C_X5_power {K : zK} (hI : zInj K) (hN : kN K = 85) (c : CS) (hc : okC c) (i : Int) (bi : zB i) (p : Int) (bp : zB p)  : zCi K yX5_power cX5_power 3 (some .int) 4 [.ref (kad K 0), .int (iI i), .int (iI p)] (layC K c) (fun z u => (¬ ((0 ≤ i ∧ i < qn (c.1 0)) ∧ 0 ≤ p ∧ p ≤ 1) ∧ z = -1 ∧ u = (layC K c)) ∨ (((0 ≤ i ∧ i < qn (c.1 0)) ∧ 0 ≤ p ∧ p ≤ 1) ∧ z = lowT (decN (letsV (c.1 0)) (qn (c.1 0)).toNat i.toNat (2 ^ (qn (c.1 0)).toNat)) (facN (qn (c.1 0)).toNat) p ∧ ∃ d : CS, eqS c d ∧ u = layC K d)) := by
  obtain ⟨hv, ht, hnu, hw, hU, hP⟩ := id hc
  obtain ⟨hn7, ham, hhe, hsa, hro, hfa, hm⟩ := id hv
  obtain ⟨bi1, bi2⟩ := id bi
  obtain ⟨bp1, bp2⟩ := id bp
  refine zCi_in hI (by decide +kernel) (Nat.le_of_ble_eq_true rfl) (fun X O hE => ?_)
  refine n_aload_n O dX5_power_0 rfl ?_
  refine n_iload_n O dX5_power_1 rfl ?_
  refine r_callV1i O (C_X5_isNoMember hI hN _ hn7 _ ⟨by omega, by omega⟩) q_X5_91 (by rw [hN]; decide) (fs := _) rfl rfl rfl (by decide) (by decide) (Nat.le_of_ble_eq_true rfl) dX5_power_2 (fun zz2 zu2 hz2 => ?_)
  obtain ⟨hzo2, rfl⟩ := hz2
  have ho2 := outV_c hzo2
  refine r_if_ne (tgt := 17) O ⟨by omega, by omega⟩ dX5_power_5 (by decide) (fun hc5 => ?_) (fun hc5 => ?_)
  · skip
    refine r_iconst O dX5_power_17 ?_
    exact hE _ _ _ _ dX5_power_18 rfl (Or.inl ⟨by omega, rfl, rfl⟩)
  · skip
    refine n_iload_n O dX5_power_8 rfl ?_
    refine r_iconst O dX5_power_9 ?_
    refine r_iconst O dX5_power_10 ?_
    refine r_callS3i O (C_X5_isOutside hI _ _ _ _ ⟨by omega, by omega⟩ ⟨by omega, by omega⟩ ⟨by omega, by omega⟩) q_X5_75 (by decide) (by decide) (Nat.le_of_ble_eq_true rfl) dX5_power_11 (fun zz11 zu11 hz11 => ?_)
    obtain ⟨hzo11, rfl⟩ := hz11
    have ho11 := outV_c hzo11
    refine r_if_eq (tgt := 19) O ⟨by omega, by omega⟩ dX5_power_14 (by decide) (fun hc14 => ?_) (fun hc14 => ?_)
    · skip
      refine n_aload_n O dX5_power_19 rfl ?_
      refine O_get_3 O hN fl_X5_29 dX5_power_20 ?_
      refine n_aload_n O dX5_power_23 rfl ?_
      refine O_get_1 O hN fl_X5_19 dX5_power_24 ?_
      refine r_callV1v O (E_X1_measure hI hN c hv) q_X5_175 (by rw [hN]; decide) (fs := _) rfl rfl rfl (by decide) (by decide) (Nat.le_of_ble_eq_true rfl) dX5_power_27 (fun zu27 hz27 => ?_)
      obtain ⟨g, hgr, rfl⟩ := hz27
      have en : qn (c.1 0) = (((qn (c.1 0)).toNat : Nat) : Int) := by omega
      refine G_ct (ct' := layC K (wE c (g, (((qn (c.1 0)).toNat : Nat) : Int), qam (c.1 0)))) (by rw [← en]) ?_
      have eL : letsI g (qn (c.1 0)).toNat (qam (c.1 0)) = letsV (c.1 0) := letsI_eq (fun i hi => hgr i (by omega))
      have hgb : ∀ i : Nat, i < (qn (c.1 0)).toNat → 0 ≤ g (i : Int) ∧ g (i : Int) ≤ 60 := fun i hi => by rw [hgr i (by omega)]; exact reachV_b hv (by omega) (by omega)
      refine n_aload_n O dX5_power_30 rfl ?_
      refine O_get_3 O hN fl_X5_29 dX5_power_31 ?_
      refine n_iload_n O dX5_power_34 rfl ?_
      refine G_st (st' := .int (iI ((i.toNat : Nat) : Int)) :: _) (by rw [Int.toNat_of_nonneg (by omega)]) ?_
      refine r_callV1i O (C_X1_ordersDecidedBy hI hN _ _ _ (qn (c.1 0)).toNat (by omega) hgb ham i.toNat (by omega)) q_X5_186 (by rw [hN]; decide) (fs := _) rfl rfl rfl (by decide) (by decide) (Nat.le_of_ble_eq_true rfl) dX5_power_35 (fun zz35 zu35 hz35 => ?_)
      rw [eL] at hz35
      obtain ⟨rfl, rfl⟩ := hz35
      have hpw := pow_b (qn (c.1 0)).toNat (by omega)
      have hdb := decN_b (L := letsV (c.1 0)) (n := (qn (c.1 0)).toNat) (i := i.toNat) (by omega) (by omega) (2 ^ (qn (c.1 0)).toNat) (Nat.le_refl _)
      refine n_aload_n O dX5_power_38 rfl ?_
      refine O_get_3 O hN fl_X5_29 dX5_power_39 ?_
      refine r_callV0i O (C_X1_orders hI hN _ _ _ (qn (c.1 0)).toNat (by omega)) q_X5_189 (by rw [hN]; decide) (fs := _) rfl rfl rfl (by decide) (by decide) (Nat.le_of_ble_eq_true rfl) dX5_power_42 (fun zz42 zu42 hz42 => ?_)
      obtain ⟨rfl, rfl⟩ := hz42
      have hfc := facN_c (qn (c.1 0)).toNat (by omega)
      refine n_iload_n O dX5_power_45 rfl ?_
      refine r_callS3i O (C_X5_inLowestTerms hI _ _ _ _ ⟨by omega, by omega⟩ ⟨by omega, by omega⟩ ⟨by omega, by omega⟩) q_X5_192 (by decide) (by decide) (Nat.le_of_ble_eq_true rfl) dX5_power_46 (fun zz46 zu46 hz46 => ?_)
      obtain ⟨rfl, rfl⟩ := hz46
      exact hE _ _ _ _ dX5_power_49 rfl (Or.inr ⟨by omega, rfl, _, eqS_2 hnu _, rfl⟩)
    · skip
      refine r_iconst O dX5_power_17 ?_
      exact hE _ _ _ _ dX5_power_18 rfl (Or.inl ⟨by omega, rfl, rfl⟩)
set_option maxHeartbeats 4000000 in
theorem C_X5_likely {K : zK} (hI : zInj K) (hN : kN K = 85) (c : CS) (hc : okC c) (x : Int) (bx : zB x) (p : Int) (bp : zB p)  : zCi K yX5_likely cX5_likely 3 (some .int) 4 [.ref (kad K 0), .int (iI x), .int (iI p)] (layC K c) (fun z u => (¬ ((0 ≤ x ∧ x ≤ 10) ∧ 0 ≤ p ∧ p ≤ 1) ∧ z = -1 ∧ u = (layC K c)) ∨ (((0 ≤ x ∧ x ≤ 10) ∧ 0 ≤ p ∧ p ≤ 1) ∧ z = lowT (likN (letsV (c.1 0)) x (qn (c.1 0)).toNat (2 ^ (qn (c.1 0)).toNat)) (tenN (qn (c.1 0)).toNat) p ∧ ∃ d : CS, eqS c d ∧ u = layC K d)) := by
  obtain ⟨hv, ht, hnu, hw, hU, hP⟩ := id hc
  obtain ⟨hn7, ham, hhe, hsa, hro, hfa, hm⟩ := id hv
  obtain ⟨bx1, bx2⟩ := id bx
  obtain ⟨bp1, bp2⟩ := id bp
  refine zCi_in hI (by decide +kernel) (Nat.le_of_ble_eq_true rfl) (fun X O hE => ?_)
  refine n_iload_n O dX5_likely_0 rfl ?_
  refine r_iconst O dX5_likely_1 ?_
  refine r_bipush O (by decide +kernel) dX5_likely_2 ?_
  refine r_callS3i O (C_X5_isOutside hI _ _ _ _ ⟨by omega, by omega⟩ ⟨by omega, by omega⟩ ⟨by omega, by omega⟩) q_X5_75 (by decide) (by decide) (Nat.le_of_ble_eq_true rfl) dX5_likely_4 (fun zz4 zu4 hz4 => ?_)
  obtain ⟨hzo4, rfl⟩ := hz4
  have ho4 := outV_c hzo4
  refine r_if_ne (tgt := 19) O ⟨by omega, by omega⟩ dX5_likely_7 (by decide) (fun hc7 => ?_) (fun hc7 => ?_)
  · skip
    refine r_iconst O dX5_likely_19 ?_
    exact hE _ _ _ _ dX5_likely_20 rfl (Or.inl ⟨by omega, rfl, rfl⟩)
  · skip
    refine n_iload_n O dX5_likely_10 rfl ?_
    refine r_iconst O dX5_likely_11 ?_
    refine r_iconst O dX5_likely_12 ?_
    refine r_callS3i O (C_X5_isOutside hI _ _ _ _ ⟨by omega, by omega⟩ ⟨by omega, by omega⟩ ⟨by omega, by omega⟩) q_X5_75 (by decide) (by decide) (Nat.le_of_ble_eq_true rfl) dX5_likely_13 (fun zz13 zu13 hz13 => ?_)
    obtain ⟨hzo13, rfl⟩ := hz13
    have ho13 := outV_c hzo13
    refine r_if_eq (tgt := 21) O ⟨by omega, by omega⟩ dX5_likely_16 (by decide) (fun hc16 => ?_) (fun hc16 => ?_)
    · skip
      refine n_aload_n O dX5_likely_21 rfl ?_
      refine O_get_3 O hN fl_X5_29 dX5_likely_22 ?_
      refine n_aload_n O dX5_likely_25 rfl ?_
      refine O_get_1 O hN fl_X5_19 dX5_likely_26 ?_
      refine r_callV1v O (E_X1_measure hI hN c hv) q_X5_175 (by rw [hN]; decide) (fs := _) rfl rfl rfl (by decide) (by decide) (Nat.le_of_ble_eq_true rfl) dX5_likely_29 (fun zu29 hz29 => ?_)
      obtain ⟨g, hgr, rfl⟩ := hz29
      have en : qn (c.1 0) = (((qn (c.1 0)).toNat : Nat) : Int) := by omega
      refine G_ct (ct' := layC K (wE c (g, (((qn (c.1 0)).toNat : Nat) : Int), qam (c.1 0)))) (by rw [← en]) ?_
      have eL : letsI g (qn (c.1 0)).toNat (qam (c.1 0)) = letsV (c.1 0) := letsI_eq (fun i hi => hgr i (by omega))
      have hgb : ∀ i : Nat, i < (qn (c.1 0)).toNat → 0 ≤ g (i : Int) ∧ g (i : Int) ≤ 60 := fun i hi => by rw [hgr i (by omega)]; exact reachV_b hv (by omega) (by omega)
      refine n_aload_n O dX5_likely_32 rfl ?_
      refine O_get_3 O hN fl_X5_29 dX5_likely_33 ?_
      refine n_iload_n O dX5_likely_36 rfl ?_
      refine r_callV1i O (C_X1_passingCasesBy hI hN _ _ _ (qn (c.1 0)).toNat (by omega) hgb ham x (by omega) (by omega)) q_X5_208 (by rw [hN]; decide) (fs := _) rfl rfl rfl (by decide) (by decide) (Nat.le_of_ble_eq_true rfl) dX5_likely_37 (fun zz37 zu37 hz37 => ?_)
      rw [eL] at hz37
      obtain ⟨rfl, rfl⟩ := hz37
      have hpw := pow_b (qn (c.1 0)).toNat (by omega)
      have hdb := likN_b (L := letsV (c.1 0)) (x := x) (n := (qn (c.1 0)).toNat) (by omega) (by omega) (by omega) (2 ^ (qn (c.1 0)).toNat)
      refine n_aload_n O dX5_likely_40 rfl ?_
      refine O_get_3 O hN fl_X5_29 dX5_likely_41 ?_
      refine r_callV0i O (C_X1_cases hI hN _ _ _ (qn (c.1 0)).toNat (by omega)) q_X5_211 (by rw [hN]; decide) (fs := _) rfl rfl rfl (by decide) (by decide) (Nat.le_of_ble_eq_true rfl) dX5_likely_44 (fun zz44 zu44 hz44 => ?_)
      obtain ⟨rfl, rfl⟩ := hz44
      have hfc := tenN_b (qn (c.1 0)).toNat (by omega)
      refine n_iload_n O dX5_likely_47 rfl ?_
      refine r_callS3i O (C_X5_inLowestTerms hI _ _ _ _ ⟨by omega, by omega⟩ ⟨by omega, by omega⟩ ⟨by omega, by omega⟩) q_X5_192 (by decide) (by decide) (Nat.le_of_ble_eq_true rfl) dX5_likely_48 (fun zz48 zu48 hz48 => ?_)
      obtain ⟨rfl, rfl⟩ := hz48
      exact hE _ _ _ _ dX5_likely_51 rfl (Or.inr ⟨by omega, rfl, _, eqS_2 hnu _, rfl⟩)
    · skip
      refine r_iconst O dX5_likely_19 ?_
      exact hE _ _ _ _ dX5_likely_20 rfl (Or.inl ⟨by omega, rfl, rfl⟩)
set_option maxHeartbeats 4000000 in
theorem C_X5_seen {K : zK} (hI : zInj K) (hN : kN K = 85) (c : CS) (hc : okC c) (i : Int) (bi : zB i) (n : Int) (bn : zB n)  : zCi K yX5_seen cX5_seen 3 (some .int) 2 [.ref (kad K 0), .int (iI i), .int (iI n)] (layC K c) (fun z u => (¬ ((0 ≤ i ∧ i < qn (c.1 0)) ∧ 0 ≤ n ∧ n ≤ 18) ∧ z = -1 ∧ u = (layC K c)) ∨ (((0 ≤ i ∧ i < qn (c.1 0)) ∧ 0 ≤ n ∧ n ≤ 18) ∧ c.2.2.2.1.2.2 ≤ 5 ∧ z = c.2.2.2.1.2.2 + 1 ∧ u = layC K (wV c (uI c.2.2.2.1.1 c.2.2.2.1.2.2 i, uI c.2.2.2.1.2.1 c.2.2.2.1.2.2 n, c.2.2.2.1.2.2 + 1))) ∨ (((0 ≤ i ∧ i < qn (c.1 0)) ∧ 0 ≤ n ∧ n ≤ 18) ∧ ¬ c.2.2.2.1.2.2 ≤ 5 ∧ z = -3 ∧ u = (layC K c))) := by
  obtain ⟨hv, ht, hnu, hw, hU, hP⟩ := id hc
  obtain ⟨hn7, ham, hhe, hsa, hro, hfa, hm⟩ := id hv
  have hw1 := hw.1
  obtain ⟨bi1, bi2⟩ := id bi
  obtain ⟨bn1, bn2⟩ := id bn
  refine zCi_in hI (by decide +kernel) (Nat.le_of_ble_eq_true rfl) (fun X O hE => ?_)
  refine n_aload_n O dX5_seen_0 rfl ?_
  refine n_iload_n O dX5_seen_1 rfl ?_
  refine r_callV1i O (C_X5_isNoMember hI hN _ hn7 _ ⟨by omega, by omega⟩) q_X5_91 (by rw [hN]; decide) (fs := _) rfl rfl rfl (by decide) (by decide) (Nat.le_of_ble_eq_true rfl) dX5_seen_2 (fun zz2 zu2 hz2 => ?_)
  obtain ⟨hzo2, rfl⟩ := hz2
  have ho2 := outV_c hzo2
  refine r_if_ne (tgt := 18) O ⟨by omega, by omega⟩ dX5_seen_5 (by decide) (fun hc5 => ?_) (fun hc5 => ?_)
  · skip
    refine r_iconst O dX5_seen_18 ?_
    exact hE _ _ _ _ dX5_seen_19 rfl (Or.inl ⟨by omega, rfl, rfl⟩)
  · skip
    refine n_iload_n O dX5_seen_8 rfl ?_
    refine r_iconst O dX5_seen_9 ?_
    refine r_bipush O (by decide +kernel) dX5_seen_10 ?_
    refine r_callS3i O (C_X5_isOutside hI _ _ _ _ ⟨by omega, by omega⟩ ⟨by omega, by omega⟩ ⟨by omega, by omega⟩) q_X5_75 (by decide) (by decide) (Nat.le_of_ble_eq_true rfl) dX5_seen_12 (fun zz12 zu12 hz12 => ?_)
    obtain ⟨hzo12, rfl⟩ := hz12
    have ho12 := outV_c hzo12
    refine r_if_eq (tgt := 20) O ⟨by omega, by omega⟩ dX5_seen_15 (by decide) (fun hc15 => ?_) (fun hc15 => ?_)
    · skip
      refine n_aload_n O dX5_seen_20 rfl ?_
      refine O_get_4 O hN fl_X5_36 dX5_seen_21 ?_
      refine n_iload_n O dX5_seen_24 rfl ?_
      refine n_iload_n O dX5_seen_25 rfl ?_
      refine r_callV2i O ((show zCi K yX2_add cX2_add 3 (some .boolean) 1 [.ref (kad K 6), .int (iI i), .int (iI n)] (layC K c) _ from C_X2_add hI hN c c.2.2.2.1.1 c.2.2.2.1.2.1 c.2.2.2.1.2.2 hw.1 i n)) q_X5_196 (by rw [hN]; decide) (fs := _) rfl rfl rfl (by decide) (by decide) (Nat.le_of_ble_eq_true rfl) dX5_seen_26 (fun zz26 zu26 hz26 => ?_)
      have hz01 : zz26 = 0 ∨ zz26 = 1 := by rcases hz26 with ⟨_, h, _⟩ | ⟨_, h, _⟩ <;> omega
      refine r_if_eq (tgt := 42) O ⟨by omega, by omega⟩ dX5_seen_29 (by decide) (fun hc29 => ?_) (fun hc29 => ?_)
      · skip
        have h26 : ¬ c.2.2.2.1.2.2 ≤ 5 ∧ zu26 = layC K c := by rcases hz26 with ⟨_, h2, _⟩ | ⟨h1, _, h3⟩; (exfalso; omega); exact ⟨h1, h3⟩
        obtain ⟨h261, rfl⟩ := h26
        refine r_bipush O (by decide +kernel) dX5_seen_42 ?_
        exact hE _ _ _ _ dX5_seen_44 rfl (by first | exact Or.inr (Or.inl ⟨by omega, h261, rfl, rfl⟩) | exact Or.inr (Or.inr ⟨by omega, h261, rfl, rfl⟩))
      · skip
        have h26 : c.2.2.2.1.2.2 ≤ 5 ∧ zu26 = layC K (wV c (uI c.2.2.2.1.1 c.2.2.2.1.2.2 i, uI c.2.2.2.1.2.1 c.2.2.2.1.2.2 n, c.2.2.2.1.2.2 + 1)) := by rcases hz26 with ⟨h1, _, h3⟩ | ⟨_, h2, _⟩; exact ⟨h1, h3⟩; exfalso; omega
        obtain ⟨h261, rfl⟩ := h26
        refine n_aload_n O dX5_seen_32 rfl ?_
        refine O_get_4 O hN fl_X5_36 dX5_seen_33 ?_
        refine A_get_V_my O hN fl_X5_200 dX5_seen_36 ?_
        refine r_goto (tgt := 44) O dX5_seen_39 (by decide) ?_
        exact hE _ _ _ _ dX5_seen_44 rfl (by first | exact Or.inr (Or.inl ⟨by omega, h261, rfl, rfl⟩) | exact Or.inr (Or.inr ⟨by omega, h261, rfl, rfl⟩))
    · skip
      refine r_iconst O dX5_seen_18 ?_
      exact hE _ _ _ _ dX5_seen_19 rfl (Or.inl ⟨by omega, rfl, rfl⟩)
set_option maxHeartbeats 4000000 in
theorem C_X5_forget {K : zK} (hI : zInj K) (hN : kN K = 85) (c : CS) (hc : okC c)  : zCi K yX5_forget cX5_forget 2 (some .int) 1 [.ref (kad K 0)] (layC K c) (fun z u => z = c.2.2.2.1.2.2 ∧ u = layC K (wV c (c.2.2.2.1.1, c.2.2.2.1.2.1, 0))) := by
  obtain ⟨hv, ht, hnu, hw, hU, hP⟩ := id hc
  refine zCi_in hI (by decide +kernel) (Nat.le_of_ble_eq_true rfl) (fun X O hE => ?_)
  refine n_aload_n O dX5_forget_0 rfl ?_
  refine O_get_4 O hN fl_X5_36 dX5_forget_1 ?_
  refine A_get_V_my O hN fl_X5_200 dX5_forget_4 ?_
  refine n_istore_n O dX5_forget_7 (by decide) rfl ?_
  refine n_aload_n O dX5_forget_8 rfl ?_
  refine O_get_4 O hN fl_X5_36 dX5_forget_9 ?_
  refine r_callV0v O (E_X2_clear hI hN _) q_X5_89 (by rw [hN]; decide) (fs := _) rfl rfl rfl (by decide) (by decide) (Nat.le_of_ble_eq_true rfl) dX5_forget_12 (fun zu12 hz12 => ?_)
  obtain rfl := hz12
  refine n_iload_n O dX5_forget_15 rfl ?_
  exact hE _ _ _ _ dX5_forget_16 rfl ⟨rfl, rfl⟩
set_option maxHeartbeats 4000000 in
theorem C_X5_may {K : zK} (hI : zInj K) (hN : kN K = 85) (c : CS) (hc : okC c) (w : Int) (bw : zB w)  : zCi K yX5_may cX5_may 4 (some .int) 4 [.ref (kad K 0), .int (iI w)] (layC K c) (fun z u => ((w < 0 ∨ 1 < w) ∧ z = -1 ∧ u = (layC K c)) ∨ ((0 ≤ w ∧ w ≤ 1) ∧ z = ((mayN (c.1 0) c.2.2.2.1.1 c.2.2.2.1.2.1 c.2.2.2.1.2.2.toNat w 10 : Nat) : Int) ∧ ∃ d : CS, eqS c d ∧ u = layC K d)) := by
  obtain ⟨hv, ht, hnu, hw, hU, hP⟩ := id hc
  obtain ⟨hn7, ham, hhe, hsa, hro, hfa, hm⟩ := id hv
  have hw1 := hw.1
  obtain ⟨bw1, bw2⟩ := id bw
  refine zCi_in hI (by decide +kernel) (Nat.le_of_ble_eq_true rfl) (fun X O hE => ?_)
  refine n_iload_n O dX5_may_0 rfl ?_
  refine r_iconst O dX5_may_1 ?_
  refine r_iconst O dX5_may_2 ?_
  refine r_callS3i O (C_X5_isOutside hI _ _ _ _ ⟨by omega, by omega⟩ ⟨by omega, by omega⟩ ⟨by omega, by omega⟩) q_X5_75 (by decide) (by decide) (Nat.le_of_ble_eq_true rfl) dX5_may_3 (fun zz3 zu3 hz3 => ?_)
  obtain ⟨hzo3, rfl⟩ := hz3
  have ho3 := outV_c hzo3
  refine r_if_eq (tgt := 11) O ⟨by omega, by omega⟩ dX5_may_6 (by decide) (fun hc6 => ?_) (fun hc6 => ?_)
  · skip
    refine r_iconst O dX5_may_11 ?_
    refine n_istore_n O dX5_may_12 (by decide) rfl ?_
    refine r_iconst O dX5_may_13 ?_
    refine n_istore_n O dX5_may_14 (by decide) rfl ?_
    refine G_ct (ct' := layC K (wS c 1 (c.1 1))) (by rw [wS_id]) ?_
    have L15 : ∀ (zk : Nat) (x b : Nat) (s : SV), (x ≤ 10 ∧ mayN (c.1 0) c.2.2.2.1.1 c.2.2.2.1.2.1 c.2.2.2.1.2.2.toNat w x = b) → 10 - x = zk → G K X 4 15 [(0, .ref (kad K 0)), (1, .int (iI w)), (2, .int (iI (b : Int))), (3, .int (iI (x : Int)))] [] (layC K (wS c 1 s)) := by
      intro zk
      induction zk using Nat.strongRecOn with
      | ind zk ih15 =>
        intro x b s hinv hk
        obtain ⟨hx, hq⟩ := hinv
        refine n_iload_n O dX5_may_15 rfl ?_
        refine r_bipush O (by decide +kernel) dX5_may_16 ?_
        refine r_icmp_gt (tgt := 93) O ⟨by omega, by omega⟩ ⟨by omega, by omega⟩ dX5_may_18 (by decide) (fun hc18 => ?_) (fun hc18 => ?_)
        · skip
          refine n_iload_n O dX5_may_93 rfl ?_
          exact hE _ _ _ _ dX5_may_94 rfl (Or.inr ⟨by omega, by (have e : x = 10 := by omega); rw [← hq, e], _, eqS_1 hnu _, rfl⟩)
        · skip
          refine n_aload_n O dX5_may_21 rfl ?_
          refine O_get_2 O hN fl_X5_23 dX5_may_22 ?_
          refine n_aload_n O dX5_may_25 rfl ?_
          refine O_get_1 O hN fl_X5_19 dX5_may_26 ?_
          refine r_callV1v O (E_X3_takeOver hI hN (wS c 1 s) 1 (by decide) 0 (by decide) (by decide)) q_X5_85 (by rw [hN]; omega) (lay_j0 K _ _) rfl rfl (by decide) (by decide) (Nat.le_of_ble_eq_true rfl) dX5_may_29 (fun zu29 hz29 => ?_)
          rw [wS_up, wS_s, wS_n c s (by decide)] at hz29
          obtain rfl := hz29
          have hq1 := eqv_cpV (c.1 0) s
          have hv1 := eqv_okV hq1 hv
          refine n_iload_n O dX5_may_32 rfl ?_
          refine r_if_ne (tgt := 47) O ⟨by omega, by omega⟩ dX5_may_33 (by decide) (fun hc33 => ?_) (fun hc33 => ?_)
          · skip
            refine n_aload_n O dX5_may_47 rfl ?_
            refine O_get_2 O hN fl_X5_23 dX5_may_48 ?_
            refine n_iload_n O dX5_may_51 rfl ?_
            refine v_put_he O hN (by decide) fl_X5_133 dX5_may_52 ?_
            refine G_ct (ct' := layC K (wS c 1 (mayV (cpV (c.1 0) s) w (x : Int)))) (by unfold mayV; first | rw [if_pos (by omega)] | rw [if_neg (by omega)]) ?_
            refine n_aload_n O dX5_may_55 rfl ?_
            refine O_get_2 O hN fl_X5_23 dX5_may_56 ?_
            refine r_callV0i O (D_X3_eatRound hI hN c 1 (by decide) (mayV (cpV (c.1 0) s) w (x : Int)) (okV_mayV hv1 (by omega) (by omega) w)) q_X5_201 (by rw [hN]; omega) (lay_j0 K _ _) rfl rfl (by decide) (by decide) (Nat.le_of_ble_eq_true rfl) dX5_may_59 (fun zz59 zu59 hz59 => ?_)
            obtain ⟨rfl, rfl⟩ := hz59
            have hqr := (eqv_roundV (eqv_mayV hq1 w (x : Int)) (by rw [(mayV_ea _ _ _).2]; omega)).1
            have hea : ∀ k : Int, 0 ≤ k → k < c.2.2.2.1.2.2 → qea (roundV (mayV (cpV (c.1 0) s) w (x : Int))).1 (c.2.2.2.1.1 k) = qea (roundV (mayV (c.1 0) w (x : Int))).1 (c.2.2.2.1.1 k) := fun k h0 h1 => (hqr.2.2.2.2.2.2 (c.2.2.2.1.1 k) (hw.2 k h0 h1).1.1 (by have := (hw.2 k h0 h1).1.2; omega)).2.2.2.2
            refine r_pop O rfl dX5_may_62 ?_
            refine n_aload_n O dX5_may_63 rfl ?_
            refine O_get_4 O hN fl_X5_36 dX5_may_64 ?_
            refine n_aload_n O dX5_may_67 rfl ?_
            refine O_get_1 O hN fl_X5_19 dX5_may_68 ?_
            refine n_aload_n O dX5_may_71 rfl ?_
            refine O_get_2 O hN fl_X5_23 dX5_may_72 ?_
            refine r_callV2i O ((show zCi K yX2_allSoBetween cX2_allSoBetween 5 (some .boolean) 0 [.ref (kad K 6), .ref (kad K (6 * 0 + 13)), .ref (kad K (6 * 1 + 13))] (layC K (wS c 1 (roundV (mayV (cpV (c.1 0) s) w (x : Int))).1)) _ from C_X2_allSoBetween hI hN (wS c 1 (roundV (mayV (cpV (c.1 0) s) w (x : Int))).1) c.2.2.2.1.1 c.2.2.2.1.2.1 c.2.2.2.1.2.2 hw.1 0 1 (by decide) (by decide) (by rw [wS_s, wS_n c _ (by decide)]; intro k h0 h1; (have h2 := hw.2 k h0 h1); (have h3 := ea_roundV (okV_mayV hv (x := (x : Int)) (by omega) (by omega) w) h2.1.1); rw [(mayV_ea _ _ _).1] at h3; rw [hea k h0 h1]; exact ⟨by omega, ⟨by omega, by omega⟩, ⟨by omega, by omega⟩⟩))) q_X5_204 (by rw [hN]; decide) (fs := _) rfl rfl rfl (by decide) (by decide) (Nat.le_of_ble_eq_true rfl) dX5_may_75 (fun zz75 zu75 hz75 => ?_)
            rw [wS_s, wS_n c _ (by decide)] at hz75
            have hso : (zz75 = 1 ∧ soN (c.1 0) (roundV (mayV (c.1 0) w (x : Int))).1 c.2.2.2.1.1 c.2.2.2.1.2.1 c.2.2.2.1.2.2.toNat = 1) ∨ (zz75 = 0 ∧ soN (c.1 0) (roundV (mayV (c.1 0) w (x : Int))).1 c.2.2.2.1.1 c.2.2.2.1.2.1 c.2.2.2.1.2.2.toNat ≠ 1) := by (have em : ((c.2.2.2.1.2.2.toNat : Nat) : Int) = c.2.2.2.1.2.2 := by omega); rcases hz75 with ⟨h1, h2, _⟩ | ⟨h1, h2, _⟩; (exact Or.inl ⟨h2, (soN_iff _ _ _ _ _).mpr (fun k k0 k1 => by rw [← hea k k0 (by omega)]; exact h1 k k0 (by omega))⟩); (exact Or.inr ⟨h2, fun q => h1 (fun k k0 k1 => by rw [hea k k0 k1]; exact (soN_iff _ _ _ _ _).mp q k k0 (by omega))⟩)
            have hzu : zu75 = layC K (wS c 1 (roundV (mayV (cpV (c.1 0) s) w (x : Int))).1) := by rcases hz75 with ⟨_, _, h⟩ | ⟨_, _, h⟩ <;> exact h
            subst hzu
            refine r_if_eq (tgt := 87) O ⟨by omega, by omega⟩ dX5_may_78 (by decide) (fun hc78 => ?_) (fun hc78 => ?_)
            · skip
              refine n_iinc O dX5_may_87 (by decide) rfl rfl ?_
              refine r_goto (tgt := 15) O dX5_may_90 (by decide) ?_
              exact G_chk (ih15 _ (by omega) (x + 1) _ _ ⟨by omega, by show (if soN (c.1 0) (roundV (mayV (c.1 0) w (x : Int))).1 c.2.2.2.1.1 c.2.2.2.1.2.1 c.2.2.2.1.2.2.toNat = 1 then mayN (c.1 0) c.2.2.2.1.1 c.2.2.2.1.2.1 c.2.2.2.1.2.2.toNat w x ||| 2 ^ x else mayN (c.1 0) c.2.2.2.1.1 c.2.2.2.1.2.1 c.2.2.2.1.2.2.toNat w x) = _; rw [hq]; first | (rw [if_pos (by omega)]; done) | (rw [if_neg (by omega)]; done)⟩ rfl) (zsc rfl (zsc rfl (zsc rfl (zsc rfl zsn))))
            · skip
              refine n_iload_n O dX5_may_81 rfl ?_
              refine r_iconst O dX5_may_82 ?_
              refine n_iload_n O dX5_may_83 rfl ?_
              refine r_ishl O (bit_shl31 (by omega)) dX5_may_84 ?_
              refine r_ior O (iI_or _ _) dX5_may_85 ?_
              refine n_istore_n O dX5_may_86 (by decide) rfl ?_
              refine n_iinc O dX5_may_87 (by decide) rfl rfl ?_
              refine r_goto (tgt := 15) O dX5_may_90 (by decide) ?_
              exact G_chk (ih15 _ (by omega) (x + 1) _ _ ⟨by omega, by show (if soN (c.1 0) (roundV (mayV (c.1 0) w (x : Int))).1 c.2.2.2.1.1 c.2.2.2.1.2.1 c.2.2.2.1.2.2.toNat = 1 then mayN (c.1 0) c.2.2.2.1.1 c.2.2.2.1.2.1 c.2.2.2.1.2.2.toNat w x ||| 2 ^ x else mayN (c.1 0) c.2.2.2.1.1 c.2.2.2.1.2.1 c.2.2.2.1.2.2.toNat w x) = _; rw [hq]; first | (rw [if_pos (by omega)]; done) | (rw [if_neg (by omega)]; done)⟩ rfl) (zsc rfl (zsc rfl (zsc rfl (zsc rfl zsn))))
          · skip
            refine n_aload_n O dX5_may_36 rfl ?_
            refine O_get_2 O hN fl_X5_23 dX5_may_37 ?_
            refine n_iload_n O dX5_may_40 rfl ?_
            refine v_put_sa O hN (by decide) fl_X5_124 dX5_may_41 ?_
            refine r_goto (tgt := 55) O dX5_may_44 (by decide) ?_
            refine G_ct (ct' := layC K (wS c 1 (mayV (cpV (c.1 0) s) w (x : Int)))) (by unfold mayV; first | rw [if_pos (by omega)] | rw [if_neg (by omega)]) ?_
            refine n_aload_n O dX5_may_55 rfl ?_
            refine O_get_2 O hN fl_X5_23 dX5_may_56 ?_
            refine r_callV0i O (D_X3_eatRound hI hN c 1 (by decide) (mayV (cpV (c.1 0) s) w (x : Int)) (okV_mayV hv1 (by omega) (by omega) w)) q_X5_201 (by rw [hN]; omega) (lay_j0 K _ _) rfl rfl (by decide) (by decide) (Nat.le_of_ble_eq_true rfl) dX5_may_59 (fun zz59 zu59 hz59 => ?_)
            obtain ⟨rfl, rfl⟩ := hz59
            have hqr := (eqv_roundV (eqv_mayV hq1 w (x : Int)) (by rw [(mayV_ea _ _ _).2]; omega)).1
            have hea : ∀ k : Int, 0 ≤ k → k < c.2.2.2.1.2.2 → qea (roundV (mayV (cpV (c.1 0) s) w (x : Int))).1 (c.2.2.2.1.1 k) = qea (roundV (mayV (c.1 0) w (x : Int))).1 (c.2.2.2.1.1 k) := fun k h0 h1 => (hqr.2.2.2.2.2.2 (c.2.2.2.1.1 k) (hw.2 k h0 h1).1.1 (by have := (hw.2 k h0 h1).1.2; omega)).2.2.2.2
            refine r_pop O rfl dX5_may_62 ?_
            refine n_aload_n O dX5_may_63 rfl ?_
            refine O_get_4 O hN fl_X5_36 dX5_may_64 ?_
            refine n_aload_n O dX5_may_67 rfl ?_
            refine O_get_1 O hN fl_X5_19 dX5_may_68 ?_
            refine n_aload_n O dX5_may_71 rfl ?_
            refine O_get_2 O hN fl_X5_23 dX5_may_72 ?_
            refine r_callV2i O ((show zCi K yX2_allSoBetween cX2_allSoBetween 5 (some .boolean) 0 [.ref (kad K 6), .ref (kad K (6 * 0 + 13)), .ref (kad K (6 * 1 + 13))] (layC K (wS c 1 (roundV (mayV (cpV (c.1 0) s) w (x : Int))).1)) _ from C_X2_allSoBetween hI hN (wS c 1 (roundV (mayV (cpV (c.1 0) s) w (x : Int))).1) c.2.2.2.1.1 c.2.2.2.1.2.1 c.2.2.2.1.2.2 hw.1 0 1 (by decide) (by decide) (by rw [wS_s, wS_n c _ (by decide)]; intro k h0 h1; (have h2 := hw.2 k h0 h1); (have h3 := ea_roundV (okV_mayV hv (x := (x : Int)) (by omega) (by omega) w) h2.1.1); rw [(mayV_ea _ _ _).1] at h3; rw [hea k h0 h1]; exact ⟨by omega, ⟨by omega, by omega⟩, ⟨by omega, by omega⟩⟩))) q_X5_204 (by rw [hN]; decide) (fs := _) rfl rfl rfl (by decide) (by decide) (Nat.le_of_ble_eq_true rfl) dX5_may_75 (fun zz75 zu75 hz75 => ?_)
            rw [wS_s, wS_n c _ (by decide)] at hz75
            have hso : (zz75 = 1 ∧ soN (c.1 0) (roundV (mayV (c.1 0) w (x : Int))).1 c.2.2.2.1.1 c.2.2.2.1.2.1 c.2.2.2.1.2.2.toNat = 1) ∨ (zz75 = 0 ∧ soN (c.1 0) (roundV (mayV (c.1 0) w (x : Int))).1 c.2.2.2.1.1 c.2.2.2.1.2.1 c.2.2.2.1.2.2.toNat ≠ 1) := by (have em : ((c.2.2.2.1.2.2.toNat : Nat) : Int) = c.2.2.2.1.2.2 := by omega); rcases hz75 with ⟨h1, h2, _⟩ | ⟨h1, h2, _⟩; (exact Or.inl ⟨h2, (soN_iff _ _ _ _ _).mpr (fun k k0 k1 => by rw [← hea k k0 (by omega)]; exact h1 k k0 (by omega))⟩); (exact Or.inr ⟨h2, fun q => h1 (fun k k0 k1 => by rw [hea k k0 k1]; exact (soN_iff _ _ _ _ _).mp q k k0 (by omega))⟩)
            have hzu : zu75 = layC K (wS c 1 (roundV (mayV (cpV (c.1 0) s) w (x : Int))).1) := by rcases hz75 with ⟨_, _, h⟩ | ⟨_, _, h⟩ <;> exact h
            subst hzu
            refine r_if_eq (tgt := 87) O ⟨by omega, by omega⟩ dX5_may_78 (by decide) (fun hc78 => ?_) (fun hc78 => ?_)
            · skip
              refine n_iinc O dX5_may_87 (by decide) rfl rfl ?_
              refine r_goto (tgt := 15) O dX5_may_90 (by decide) ?_
              exact G_chk (ih15 _ (by omega) (x + 1) _ _ ⟨by omega, by show (if soN (c.1 0) (roundV (mayV (c.1 0) w (x : Int))).1 c.2.2.2.1.1 c.2.2.2.1.2.1 c.2.2.2.1.2.2.toNat = 1 then mayN (c.1 0) c.2.2.2.1.1 c.2.2.2.1.2.1 c.2.2.2.1.2.2.toNat w x ||| 2 ^ x else mayN (c.1 0) c.2.2.2.1.1 c.2.2.2.1.2.1 c.2.2.2.1.2.2.toNat w x) = _; rw [hq]; first | (rw [if_pos (by omega)]; done) | (rw [if_neg (by omega)]; done)⟩ rfl) (zsc rfl (zsc rfl (zsc rfl (zsc rfl zsn))))
            · skip
              refine n_iload_n O dX5_may_81 rfl ?_
              refine r_iconst O dX5_may_82 ?_
              refine n_iload_n O dX5_may_83 rfl ?_
              refine r_ishl O (bit_shl31 (by omega)) dX5_may_84 ?_
              refine r_ior O (iI_or _ _) dX5_may_85 ?_
              refine n_istore_n O dX5_may_86 (by decide) rfl ?_
              refine n_iinc O dX5_may_87 (by decide) rfl rfl ?_
              refine r_goto (tgt := 15) O dX5_may_90 (by decide) ?_
              exact G_chk (ih15 _ (by omega) (x + 1) _ _ ⟨by omega, by show (if soN (c.1 0) (roundV (mayV (c.1 0) w (x : Int))).1 c.2.2.2.1.1 c.2.2.2.1.2.1 c.2.2.2.1.2.2.toNat = 1 then mayN (c.1 0) c.2.2.2.1.1 c.2.2.2.1.2.1 c.2.2.2.1.2.2.toNat w x ||| 2 ^ x else mayN (c.1 0) c.2.2.2.1.1 c.2.2.2.1.2.1 c.2.2.2.1.2.2.toNat w x) = _; rw [hq]; first | (rw [if_pos (by omega)]; done) | (rw [if_neg (by omega)]; done)⟩ rfl) (zsc rfl (zsc rfl (zsc rfl (zsc rfl zsn))))
    exact G_chk (L15 _ 0 0 (c.1 1) ⟨by omega, rfl⟩ rfl) (zsc rfl (zsc rfl (zsc rfl (zsc rfl zsn))))
  · skip
    refine r_iconst O dX5_may_9 ?_
    exact hE _ _ _ _ dX5_may_10 rfl (Or.inl ⟨by omega, rfl, rfl⟩)
set_option maxHeartbeats 4000000 in
theorem C_X5_century {K : zK} (hI : zInj K) (hN : kN K = 85) (c : CS) (hc : okC c) (zz : Int) (bzz : zB zz) (n : Int) (bn : zB n) (w : Int) (bw : zB w)  : zCi K yX5_century cX5_century 5 (some .int) 5 [.ref (kad K 0), .int (iI zz), .int (iI n), .int (iI w)] (layC K c) (fun z u => (¬ ((0 ≤ zz ∧ zz ≤ 9999) ∧ (1 ≤ n ∧ n ≤ 40) ∧ 0 ≤ w ∧ w ≤ 1) ∧ z = -1 ∧ u = (layC K c)) ∨ (((0 ≤ zz ∧ zz ≤ 9999) ∧ (1 ≤ n ∧ n ≤ 40) ∧ 0 ≤ w ∧ w ≤ 1) ∧ z = cenI (c.1 0) zz n w ∧ ∃ d : CS, eqS c d ∧ u = layC K d)) := by
  obtain ⟨hv, ht, hnu, hw, hU, hP⟩ := id hc
  obtain ⟨hn7, ham, hhe, hsa, hro, hfa, hm⟩ := id hv
  obtain ⟨bzz1, bzz2⟩ := id bzz
  obtain ⟨bn1, bn2⟩ := id bn
  obtain ⟨bw1, bw2⟩ := id bw
  refine zCi_in hI (by decide +kernel) (Nat.le_of_ble_eq_true rfl) (fun X O hE => ?_)
  refine n_iload_n O dX5_century_0 rfl ?_
  refine r_iconst O dX5_century_1 ?_
  refine r_sipush O (by decide +kernel) dX5_century_2 ?_
  refine r_callS3i O (C_X5_isOutside hI _ _ _ _ ⟨by omega, by omega⟩ ⟨by omega, by omega⟩ ⟨by omega, by omega⟩) q_X5_75 (by decide) (by decide) (Nat.le_of_ble_eq_true rfl) dX5_century_5 (fun zz5 zu5 hz5 => ?_)
  obtain ⟨hzo5, rfl⟩ := hz5
  have ho5 := outV_c hzo5
  refine r_if_ne (tgt := 30) O ⟨by omega, by omega⟩ dX5_century_8 (by decide) (fun hc8 => ?_) (fun hc8 => ?_)
  · skip
    refine r_iconst O dX5_century_30 ?_
    exact hE _ _ _ _ dX5_century_31 rfl (Or.inl ⟨by omega, rfl, rfl⟩)
  · skip
    refine n_iload_n O dX5_century_11 rfl ?_
    refine r_iconst O dX5_century_12 ?_
    refine r_bipush O (by decide +kernel) dX5_century_13 ?_
    refine r_callS3i O (C_X5_isOutside hI _ _ _ _ ⟨by omega, by omega⟩ ⟨by omega, by omega⟩ ⟨by omega, by omega⟩) q_X5_75 (by decide) (by decide) (Nat.le_of_ble_eq_true rfl) dX5_century_15 (fun zz15 zu15 hz15 => ?_)
    obtain ⟨hzo15, rfl⟩ := hz15
    have ho15 := outV_c hzo15
    refine r_if_ne (tgt := 30) O ⟨by omega, by omega⟩ dX5_century_18 (by decide) (fun hc18 => ?_) (fun hc18 => ?_)
    · skip
      refine r_iconst O dX5_century_30 ?_
      exact hE _ _ _ _ dX5_century_31 rfl (Or.inl ⟨by omega, rfl, rfl⟩)
    · skip
      refine n_iload_n O dX5_century_21 rfl ?_
      refine r_iconst O dX5_century_22 ?_
      refine r_iconst O dX5_century_23 ?_
      refine r_callS3i O (C_X5_isOutside hI _ _ _ _ ⟨by omega, by omega⟩ ⟨by omega, by omega⟩ ⟨by omega, by omega⟩) q_X5_75 (by decide) (by decide) (Nat.le_of_ble_eq_true rfl) dX5_century_24 (fun zz24 zu24 hz24 => ?_)
      obtain ⟨hzo24, rfl⟩ := hz24
      have ho24 := outV_c hzo24
      refine r_if_eq (tgt := 32) O ⟨by omega, by omega⟩ dX5_century_27 (by decide) (fun hc27 => ?_) (fun hc27 => ?_)
      · skip
        refine n_aload_n O dX5_century_32 rfl ?_
        refine O_get_2 O hN fl_X5_23 dX5_century_33 ?_
        refine n_aload_n O dX5_century_36 rfl ?_
        refine O_get_1 O hN fl_X5_19 dX5_century_37 ?_
        refine r_callV1v O (E_X3_takeOver hI hN c 1 (by decide) 0 (by decide) (by decide)) q_X5_85 (by rw [hN]; omega) (lay_j0 K _ _) rfl rfl (by decide) (by decide) (Nat.le_of_ble_eq_true rfl) dX5_century_40 (fun zu40 hz40 => ?_)
        obtain rfl := hz40
        have hq1 := eqv_cpV (c.1 0) (c.1 1)
        have hv1 := eqv_okV hq1 hv
        refine r_iconst O dX5_century_43 ?_
        refine n_istore O dX5_century_44 (by decide) rfl ?_
        have L46 : ∀ (zk : Nat) (k : Nat), ((k : Int) ≤ n) → 40 - k = zk → G K X 5 46 [(0, .ref (kad K 0)), (1, .int (iI zz)), (2, .int (iI n)), (3, .int (iI w)), (4, .int (iI (k : Int)))] [] (layC K (wS c 1 (liveN (cpV (c.1 0) (c.1 1)) zz.toNat k))) := by
          intro zk
          induction zk using Nat.strongRecOn with
          | ind zk ih46 =>
            intro k hinv hk
            refine n_iload O dX5_century_46 rfl ?_
            refine n_iload_n O dX5_century_48 rfl ?_
            refine r_icmp_ge (tgt := 71) O ⟨by omega, by omega⟩ ⟨by omega, by omega⟩ dX5_century_49 (by decide) (fun hc49 => ?_) (fun hc49 => ?_)
            · skip
              refine n_iload_n O dX5_century_71 rfl ?_
              refine r_if_ne (tgt := 85) O ⟨by omega, by omega⟩ dX5_century_72 (by decide) (fun hc72 => ?_) (fun hc72 => ?_)
              · skip
                refine n_aload_n O dX5_century_85 rfl ?_
                refine O_get_2 O hN fl_X5_23 dX5_century_86 ?_
                refine r_callV0i O (D_X3_eatenInAll hI hN c 1 (by decide) _ (okV_liveN hv1 _ _)) q_X5_220 (by rw [hN]; omega) (lay_j0 K _ _) rfl rfl (by decide) (by decide) (Nat.le_of_ble_eq_true rfl) dX5_century_89 (fun zz89 zu89 hz89 => ?_)
                obtain ⟨rfl, rfl⟩ := hz89
                exact hE _ _ _ _ dX5_century_92 rfl (Or.inr ⟨by omega, by (have e : n.toNat = k := by omega); (have hql := eqv_liveN hq1 (by omega) zz.toNat k); unfold cenI; rw [e]; first | (rw [if_pos (by omega)]; exact hql.2.1) | (rw [if_neg (by omega)]; (have h9 := sumI_ea hql (by rw [liveN_n]; omega)); rw [liveN_n (c.1 0)] at h9; exact h9), _, eqS_1 hnu _, rfl⟩)
              · skip
                refine n_aload_n O dX5_century_75 rfl ?_
                refine O_get_2 O hN fl_X5_23 dX5_century_76 ?_
                refine t_get_am O hN (by decide) fl_X5_118 dX5_century_79 ?_
                refine G_st (st' := .int (iI (qam (liveN (cpV (c.1 0) (c.1 1)) zz.toNat k))) :: _) (by rw [wS_s]) ?_
                refine r_goto (tgt := 92) O dX5_century_82 (by decide) ?_
                exact hE _ _ _ _ dX5_century_92 rfl (Or.inr ⟨by omega, by (have e : n.toNat = k := by omega); (have hql := eqv_liveN hq1 (by omega) zz.toNat k); unfold cenI; rw [e]; first | (rw [if_pos (by omega)]; exact hql.2.1) | (rw [if_neg (by omega)]; (have h9 := sumI_ea hql (by rw [liveN_n]; omega)); rw [liveN_n (c.1 0)] at h9; exact h9), _, eqS_1 hnu _, rfl⟩)
            · skip
              refine n_aload_n O dX5_century_52 rfl ?_
              refine O_get_2 O hN fl_X5_23 dX5_century_53 ?_
              refine n_iload_n O dX5_century_56 rfl ?_
              refine n_iload O dX5_century_57 rfl ?_
              refine r_callS2i O ((show zCi K yX5_draw cX5_draw 4 (some .int) 0 [.int (iI zz), .int (iI (k : Int))] _ _ from by have h := C_X5_draw hI (layC K (wS c 1 (liveN (cpV (c.1 0) (c.1 1)) zz.toNat k))) zz.toNat k (by omega) (by omega); rw [Int.toNat_of_nonneg (by omega)] at h; exact h)) q_X5_214 (by decide) (by decide) (Nat.le_of_ble_eq_true rfl) dX5_century_59 (fun zz59 zu59 hz59 => ?_)
              obtain ⟨rfl, rfl⟩ := hz59
              have hdr := drawI_b zz.toNat k
              refine r_callV1v O (D_X3_liveBy hI hN c 1 (by decide) _ (okV_liveN hv1 _ _) _ (by omega) (by omega)) q_X5_217 (by rw [hN]; omega) (lay_j0 K _ _) rfl rfl (by decide) (by decide) (Nat.le_of_ble_eq_true rfl) dX5_century_62 (fun zu62 hz62 => ?_)
              obtain rfl := hz62
              refine n_iinc O dX5_century_65 (by decide) rfl rfl ?_
              refine r_goto (tgt := 46) O dX5_century_68 (by decide) ?_
              exact G_chk (ih46 _ (by omega) (k + 1) (by omega) rfl) (zsc rfl (zsc rfl (zsc rfl (zsc rfl (zsc rfl zsn)))))
        exact G_chk (L46 _ 0 (by omega) rfl) (zsc rfl (zsc rfl (zsc rfl (zsc rfl (zsc rfl zsn)))))
      · skip
        refine r_iconst O dX5_century_30 ?_
        exact hE _ _ _ _ dX5_century_31 rfl (Or.inl ⟨by omega, rfl, rfl⟩)
set_option maxHeartbeats 4000000 in
theorem C_X5_keep {K : zK} (hI : zInj K) (hN : kN K = 85) (c : CS) (hc : okC c)  : zCi K yX5_keep cX5_keep 1 (some .int) 3 [.ref (kad K 0)] (layC K c) (fun z u => (2 ≤ c.2.2.2.2.2.2 ∧ z = -3 ∧ u = (layC K c)) ∨ (c.2.2.2.2.2.2 < 2 ∧ z = c.2.2.2.2.2.2 + 1 ∧ u = layC K (wP (wS c (c.2.2.2.2.2.1 c.2.2.2.2.2.2) (cpV (c.1 0) (c.1 (c.2.2.2.2.2.1 c.2.2.2.2.2.2)))) (c.2.2.2.2.2.1, c.2.2.2.2.2.2 + 1)))) := by
  obtain ⟨hv, ht, hnu, hw, hU, hP⟩ := id hc
  have hp1 := hP.1
  refine zCi_in hI (by decide +kernel) (Nat.le_of_ble_eq_true rfl) (fun X O hE => ?_)
  refine n_aload_n O dX5_keep_0 rfl ?_
  refine O_get_6 O hN fl_X5_49 dX5_keep_1 ?_
  refine A_get_P_my O hN fl_X5_153 dX5_keep_4 ?_
  refine r_iconst O dX5_keep_7 ?_
  refine r_icmp_lt (tgt := 14) O ⟨by omega, by omega⟩ ⟨by omega, by omega⟩ dX5_keep_8 (by decide) (fun hc8 => ?_) (fun hc8 => ?_)
  · skip
    refine n_aload_n O dX5_keep_14 rfl ?_
    refine O_get_6 O hN fl_X5_49 dX5_keep_15 ?_
    refine n_aload_n O dX5_keep_18 rfl ?_
    refine O_get_1 O hN fl_X5_19 dX5_keep_19 ?_
    refine r_callV1v O (E_X0_put_P hI hN c hP (by omega)) q_X5_115 (by rw [hN]; decide) (fs := _) rfl rfl rfl (by decide) (by decide) (Nat.le_of_ble_eq_true rfl) dX5_keep_22 (fun zu22 hz22 => ?_)
    obtain rfl := hz22
    refine n_aload_n O dX5_keep_25 rfl ?_
    refine O_get_6 O hN fl_X5_49 dX5_keep_26 ?_
    refine A_get_P_my O hN fl_X5_153 dX5_keep_29 ?_
    exact hE _ _ _ _ dX5_keep_32 rfl (Or.inr ⟨by omega, rfl, rfl⟩)
  · skip
    refine r_bipush O (by decide +kernel) dX5_keep_11 ?_
    exact hE _ _ _ _ dX5_keep_13 rfl (Or.inl ⟨by omega, rfl, rfl⟩)
set_option maxHeartbeats 4000000 in
theorem C_X5_back {K : zK} (hI : zInj K) (hN : kN K = 85) (c : CS) (hc : okC c)  : zCi K yX5_back cX5_back 1 (some .int) 3 [.ref (kad K 0)] (layC K c) (fun z u => (1 ≤ c.2.2.2.2.2.2 ∧ z = c.2.2.2.2.2.2 - 1 ∧ u = layC K (wU (wP (wS c 0 (cpV (c.1 (c.2.2.2.2.2.1 (c.2.2.2.2.2.2 - 1))) (c.1 0))) (c.2.2.2.2.2.1, c.2.2.2.2.2.2 - 1)) (c.2.2.2.2.1.1, 0))) ∨ (¬ 1 ≤ c.2.2.2.2.2.2 ∧ z = -2 ∧ u = (layC K c))) := by
  obtain ⟨hv, ht, hnu, hw, hU, hP⟩ := id hc
  refine zCi_in hI (by decide +kernel) (Nat.le_of_ble_eq_true rfl) (fun X O hE => ?_)
  refine n_aload_n O dX5_back_0 rfl ?_
  refine O_get_6 O hN fl_X5_49 dX5_back_1 ?_
  refine n_aload_n O dX5_back_4 rfl ?_
  refine O_get_1 O hN fl_X5_19 dX5_back_5 ?_
  refine r_callV1i O (E_X0_takeLast_P hI hN c hP) q_X5_149 (by rw [hN]; decide) (fs := _) rfl rfl rfl (by decide) (by decide) (Nat.le_of_ble_eq_true rfl) dX5_back_8 (fun zz8 zu8 hz8 => ?_)
  have hz01 : zz8 = 0 ∨ zz8 = 1 := by rcases hz8 with ⟨_, h, _⟩ | ⟨_, h, _⟩ <;> omega
  refine r_if_ne (tgt := 17) O ⟨by omega, by omega⟩ dX5_back_11 (by decide) (fun hc11 => ?_) (fun hc11 => ?_)
  · skip
    have h8 : 1 ≤ c.2.2.2.2.2.2 ∧ zu8 = layC K (wP (wS c 0 (cpV (c.1 (c.2.2.2.2.2.1 (c.2.2.2.2.2.2 - 1))) (c.1 0))) (c.2.2.2.2.2.1, c.2.2.2.2.2.2 - 1)) := by rcases hz8 with ⟨h1, _, h3⟩ | ⟨_, h2, _⟩; exact ⟨h1, h3⟩; exfalso; omega
    obtain ⟨h81, rfl⟩ := h8
    refine n_aload_n O dX5_back_17 rfl ?_
    refine O_get_5 O hN fl_X5_45 dX5_back_18 ?_
    refine r_callV0v O (E_X0_clear_U hI hN _) q_X5_90 (by rw [hN]; decide) (fs := _) rfl rfl rfl (by decide) (by decide) (Nat.le_of_ble_eq_true rfl) dX5_back_21 (fun zu21 hz21 => ?_)
    obtain rfl := hz21
    refine n_aload_n O dX5_back_24 rfl ?_
    refine O_get_6 O hN fl_X5_49 dX5_back_25 ?_
    refine A_get_P_my O hN fl_X5_153 dX5_back_28 ?_
    exact hE _ _ _ _ dX5_back_31 rfl (by first | exact Or.inl ⟨h81, rfl, rfl⟩ | exact Or.inr ⟨h81, rfl, rfl⟩)
  · skip
    have h8 : ¬ 1 ≤ c.2.2.2.2.2.2 ∧ zu8 = layC K c := by rcases hz8 with ⟨_, h2, _⟩ | ⟨h1, _, h3⟩; (exfalso; omega); exact ⟨h1, h3⟩
    obtain ⟨h81, rfl⟩ := h8
    refine r_bipush O (by decide +kernel) dX5_back_14 ?_
    exact hE _ _ _ _ dX5_back_16 rfl (by first | exact Or.inl ⟨h81, rfl, rfl⟩ | exact Or.inr ⟨h81, rfl, rfl⟩)
set_option maxHeartbeats 4000000 in
theorem C_X5_count {K : zK} (hI : zInj K) (hN : kN K = 85) (c : CS) (hc : okC c) (w : Int) (bw : zB w)  : zCi K yX5_count cX5_count 2 (some .int) 2 [.ref (kad K 0), .int (iI w)] (layC K c) (fun z u => z = cntI c w ∧ u = (layC K c)) := by
  obtain ⟨hv, ht, hnu, hw, hU, hP⟩ := id hc
  obtain ⟨hn7, ham, hhe, hsa, hro, hfa, hm⟩ := id hv
  obtain ⟨bw1, bw2⟩ := id bw
  refine zCi_in hI (by decide +kernel) (Nat.le_of_ble_eq_true rfl) (fun X O hE => ?_)
  refine n_iload_n O dX5_count_0 rfl ?_
  have hsw : w < 0 ∨ 10 < w ∨ w = 0 ∨ w = 1 ∨ w = 2 ∨ w = 3 ∨ w = 4 ∨ w = 5 ∨ w = 6 ∨ w = 7 ∨ w = 8 ∨ w = 9 ∨ w = 10 := by omega
  rcases hsw with hsw | hsw | hsw | hsw | hsw | hsw | hsw | hsw | hsw | hsw | hsw | hsw | hsw
  · skip
    refine r_tabOut (tgt := 148) O ⟨by omega, by omega⟩ dX5_count_1 (Or.inl hsw) (by decide) ?_
    refine r_iconst O dX5_count_148 ?_
    exact hE _ _ _ _ dX5_count_149 rfl ⟨by unfold cntI; repeat (first | rw [if_pos (by omega)] | rw [if_neg (by omega)]), rfl⟩
  · skip
    refine r_tabOut (tgt := 148) O ⟨by omega, by omega⟩ dX5_count_1 (Or.inr hsw) (by decide) ?_
    refine r_iconst O dX5_count_148 ?_
    exact hE _ _ _ _ dX5_count_149 rfl ⟨by unfold cntI; repeat (first | rw [if_pos (by omega)] | rw [if_neg (by omega)]), rfl⟩
  · skip
    refine r_tabIn (off := 59) (tgt := 60) O ⟨by omega, by omega⟩ dX5_count_1 (by omega) (by omega) (by rw [hsw]; rfl) (by decide) ?_
    refine n_aload_n O dX5_count_60 rfl ?_
    refine O_get_1 O hN fl_X5_19 dX5_count_61 ?_
    refine t_get_n O hN (by decide) fl_X5_82 dX5_count_64 ?_
    exact hE _ _ _ _ dX5_count_67 rfl ⟨by unfold cntI; repeat (first | rw [if_pos (by omega)] | rw [if_neg (by omega)]), rfl⟩
  · skip
    refine r_tabIn (off := 67) (tgt := 68) O ⟨by omega, by omega⟩ dX5_count_1 (by omega) (by omega) (by rw [hsw]; rfl) (by decide) ?_
    refine n_aload_n O dX5_count_68 rfl ?_
    refine O_get_1 O hN fl_X5_19 dX5_count_69 ?_
    refine t_get_am O hN (by decide) fl_X5_118 dX5_count_72 ?_
    exact hE _ _ _ _ dX5_count_75 rfl ⟨by unfold cntI; repeat (first | rw [if_pos (by omega)] | rw [if_neg (by omega)]), rfl⟩
  · skip
    refine r_tabIn (off := 75) (tgt := 76) O ⟨by omega, by omega⟩ dX5_count_1 (by omega) (by omega) (by rw [hsw]; rfl) (by decide) ?_
    refine n_aload_n O dX5_count_76 rfl ?_
    refine O_get_1 O hN fl_X5_19 dX5_count_77 ?_
    refine t_get_he O hN (by decide) fl_X5_133 dX5_count_80 ?_
    exact hE _ _ _ _ dX5_count_83 rfl ⟨by unfold cntI; repeat (first | rw [if_pos (by omega)] | rw [if_neg (by omega)]), rfl⟩
  · skip
    refine r_tabIn (off := 83) (tgt := 84) O ⟨by omega, by omega⟩ dX5_count_1 (by omega) (by omega) (by rw [hsw]; rfl) (by decide) ?_
    refine n_aload_n O dX5_count_84 rfl ?_
    refine O_get_1 O hN fl_X5_19 dX5_count_85 ?_
    refine t_get_sa O hN (by decide) fl_X5_124 dX5_count_88 ?_
    exact hE _ _ _ _ dX5_count_91 rfl ⟨by unfold cntI; repeat (first | rw [if_pos (by omega)] | rw [if_neg (by omega)]), rfl⟩
  · skip
    refine r_tabIn (off := 91) (tgt := 92) O ⟨by omega, by omega⟩ dX5_count_1 (by omega) (by omega) (by rw [hsw]; rfl) (by decide) ?_
    refine n_aload_n O dX5_count_92 rfl ?_
    refine O_get_1 O hN fl_X5_19 dX5_count_93 ?_
    refine t_get_ro O hN (by decide) fl_X5_159 dX5_count_96 ?_
    exact hE _ _ _ _ dX5_count_99 rfl ⟨by unfold cntI; repeat (first | rw [if_pos (by omega)] | rw [if_neg (by omega)]), rfl⟩
  · skip
    refine r_tabIn (off := 99) (tgt := 100) O ⟨by omega, by omega⟩ dX5_count_1 (by omega) (by omega) (by rw [hsw]; rfl) (by decide) ?_
    refine n_aload_n O dX5_count_100 rfl ?_
    refine O_get_1 O hN fl_X5_19 dX5_count_101 ?_
    refine r_callV0i O (E_X3_hungerOfAll hI hN c 0 (by decide) hv) q_X5_146 (by rw [hN]; omega) (lay_j0 K _ _) rfl rfl (by decide) (by decide) (Nat.le_of_ble_eq_true rfl) dX5_count_104 (fun zz104 zu104 hz104 => ?_)
    obtain ⟨rfl, rfl⟩ := hz104
    exact hE _ _ _ _ dX5_count_107 rfl ⟨by unfold cntI; repeat (first | rw [if_pos (by omega)] | rw [if_neg (by omega)]), rfl⟩
  · skip
    refine r_tabIn (off := 107) (tgt := 108) O ⟨by omega, by omega⟩ dX5_count_1 (by omega) (by omega) (by rw [hsw]; rfl) (by decide) ?_
    refine n_aload_n O dX5_count_108 rfl ?_
    refine O_get_1 O hN fl_X5_19 dX5_count_109 ?_
    refine r_callV0i O (E_X3_eatenInAll hI hN c 0 (by decide) hv) q_X5_220 (by rw [hN]; omega) (lay_j0 K _ _) rfl rfl (by decide) (by decide) (Nat.le_of_ble_eq_true rfl) dX5_count_112 (fun zz112 zu112 hz112 => ?_)
    obtain ⟨rfl, rfl⟩ := hz112
    exact hE _ _ _ _ dX5_count_115 rfl ⟨by unfold cntI; repeat (first | rw [if_pos (by omega)] | rw [if_neg (by omega)]), rfl⟩
  · skip
    refine r_tabIn (off := 115) (tgt := 116) O ⟨by omega, by omega⟩ dX5_count_1 (by omega) (by omega) (by rw [hsw]; rfl) (by decide) ?_
    refine n_aload_n O dX5_count_116 rfl ?_
    refine O_get_4 O hN fl_X5_36 dX5_count_117 ?_
    refine A_get_V_my O hN fl_X5_200 dX5_count_120 ?_
    exact hE _ _ _ _ dX5_count_123 rfl ⟨by unfold cntI; repeat (first | rw [if_pos (by omega)] | rw [if_neg (by omega)]), rfl⟩
  · skip
    refine r_tabIn (off := 123) (tgt := 124) O ⟨by omega, by omega⟩ dX5_count_1 (by omega) (by omega) (by rw [hsw]; rfl) (by decide) ?_
    refine n_aload_n O dX5_count_124 rfl ?_
    refine O_get_5 O hN fl_X5_45 dX5_count_125 ?_
    refine A_get_U_my O hN fl_X5_153 dX5_count_128 ?_
    exact hE _ _ _ _ dX5_count_131 rfl ⟨by unfold cntI; repeat (first | rw [if_pos (by omega)] | rw [if_neg (by omega)]), rfl⟩
  · skip
    refine r_tabIn (off := 131) (tgt := 132) O ⟨by omega, by omega⟩ dX5_count_1 (by omega) (by omega) (by rw [hsw]; rfl) (by decide) ?_
    refine n_aload_n O dX5_count_132 rfl ?_
    refine O_get_6 O hN fl_X5_49 dX5_count_133 ?_
    refine A_get_P_my O hN fl_X5_153 dX5_count_136 ?_
    exact hE _ _ _ _ dX5_count_139 rfl ⟨by unfold cntI; repeat (first | rw [if_pos (by omega)] | rw [if_neg (by omega)]), rfl⟩
  · skip
    refine r_tabIn (off := 139) (tgt := 140) O ⟨by omega, by omega⟩ dX5_count_1 (by omega) (by omega) (by rw [hsw]; rfl) (by decide) ?_
    refine n_aload_n O dX5_count_140 rfl ?_
    refine O_get_0 O hN fl_X5_10 dX5_count_141 ?_
    refine A_get_T_le O hN fl_X5_79 dX5_count_144 ?_
    exact hE _ _ _ _ dX5_count_147 rfl ⟨by unfold cntI; repeat (first | rw [if_pos (by omega)] | rw [if_neg (by omega)]), rfl⟩
set_option maxHeartbeats 4000000 in
theorem C_X5_member {K : zK} (hI : zInj K) (hN : kN K = 85) (c : CS) (hc : okC c) (i : Int) (bi : zB i) (w : Int) (bw : zB w)  : zCi K yX5_member cX5_member 3 (some .int) 3 [.ref (kad K 0), .int (iI i), .int (iI w)] (layC K c) (fun z u => z = memI (c.1 0) i w ∧ u = (layC K c)) := by
  obtain ⟨hv, ht, hnu, hw, hU, hP⟩ := id hc
  obtain ⟨hn7, ham, hhe, hsa, hro, hfa, hm⟩ := id hv
  obtain ⟨bi1, bi2⟩ := id bi
  obtain ⟨bw1, bw2⟩ := id bw
  refine zCi_in hI (by decide +kernel) (Nat.le_of_ble_eq_true rfl) (fun X O hE => ?_)
  refine n_aload_n O dX5_member_0 rfl ?_
  refine n_iload_n O dX5_member_1 rfl ?_
  refine r_callV1i O (C_X5_isNoMember hI hN _ hn7 _ ⟨by omega, by omega⟩) q_X5_91 (by rw [hN]; decide) (fs := _) rfl rfl rfl (by decide) (by decide) (Nat.le_of_ble_eq_true rfl) dX5_member_2 (fun zz2 zu2 hz2 => ?_)
  obtain ⟨hzo2, rfl⟩ := hz2
  have ho2 := outV_c hzo2
  refine r_if_eq (tgt := 10) O ⟨by omega, by omega⟩ dX5_member_5 (by decide) (fun hc5 => ?_) (fun hc5 => ?_)
  · skip
    refine n_iload_n O dX5_member_10 rfl ?_
    have hsw : w < 0 ∨ 5 < w ∨ w = 0 ∨ w = 1 ∨ w = 2 ∨ w = 3 ∨ w = 4 ∨ w = 5 := by omega
    rcases hsw with hsw | hsw | hsw | hsw | hsw | hsw | hsw | hsw
    · skip
      refine r_tabOut (tgt := 107) O ⟨by omega, by omega⟩ dX5_member_11 (Or.inl hsw) (by decide) ?_
      refine r_iconst O dX5_member_107 ?_
      exact hE _ _ _ _ dX5_member_108 rfl ⟨by unfold memI; repeat (first | rw [if_pos (by omega)] | rw [if_neg (by omega)]), rfl⟩
    · skip
      refine r_tabOut (tgt := 107) O ⟨by omega, by omega⟩ dX5_member_11 (Or.inr hsw) (by decide) ?_
      refine r_iconst O dX5_member_107 ?_
      exact hE _ _ _ _ dX5_member_108 rfl ⟨by unfold memI; repeat (first | rw [if_pos (by omega)] | rw [if_neg (by omega)]), rfl⟩
    · skip
      refine r_tabIn (off := 37) (tgt := 48) O ⟨by omega, by omega⟩ dX5_member_11 (by omega) (by omega) (by rw [hsw]; rfl) (by decide) ?_
      refine n_aload_n O dX5_member_48 rfl ?_
      refine O_get_1 O hN fl_X5_19 dX5_member_49 ?_
      refine t_arr_kd O hN (by decide) fl_X5_95 dX5_member_52 ?_
      refine n_iload_n O dX5_member_55 rfl ?_
      refine t_ld_kd O hN (by decide) (by omega) (by omega) dX5_member_56 ?_
      exact hE _ _ _ _ dX5_member_57 rfl ⟨by unfold memI; repeat (first | rw [if_pos (by omega)] | rw [if_neg (by omega)]), rfl⟩
    · skip
      refine r_tabIn (off := 47) (tgt := 58) O ⟨by omega, by omega⟩ dX5_member_11 (by omega) (by omega) (by rw [hsw]; rfl) (by decide) ?_
      refine n_aload_n O dX5_member_58 rfl ?_
      refine O_get_1 O hN fl_X5_19 dX5_member_59 ?_
      refine t_arr_sp O hN (by decide) fl_X5_99 dX5_member_62 ?_
      refine n_iload_n O dX5_member_65 rfl ?_
      refine t_ld_sp O hN (by decide) (by omega) (by omega) dX5_member_66 ?_
      exact hE _ _ _ _ dX5_member_67 rfl ⟨by unfold memI; repeat (first | rw [if_pos (by omega)] | rw [if_neg (by omega)]), rfl⟩
    · skip
      refine r_tabIn (off := 57) (tgt := 68) O ⟨by omega, by omega⟩ dX5_member_11 (by omega) (by omega) (by rw [hsw]; rfl) (by decide) ?_
      refine n_aload_n O dX5_member_68 rfl ?_
      refine O_get_1 O hN fl_X5_19 dX5_member_69 ?_
      refine t_arr_hu O hN (by decide) fl_X5_102 dX5_member_72 ?_
      refine n_iload_n O dX5_member_75 rfl ?_
      refine t_ld_hu O hN (by decide) (by omega) (by omega) dX5_member_76 ?_
      exact hE _ _ _ _ dX5_member_77 rfl ⟨by unfold memI; repeat (first | rw [if_pos (by omega)] | rw [if_neg (by omega)]), rfl⟩
    · skip
      refine r_tabIn (off := 67) (tgt := 78) O ⟨by omega, by omega⟩ dX5_member_11 (by omega) (by omega) (by rw [hsw]; rfl) (by decide) ?_
      refine n_aload_n O dX5_member_78 rfl ?_
      refine O_get_1 O hN fl_X5_19 dX5_member_79 ?_
      refine t_arr_be O hN (by decide) fl_X5_105 dX5_member_82 ?_
      refine n_iload_n O dX5_member_85 rfl ?_
      refine t_ld_be O hN (by decide) (by omega) (by omega) dX5_member_86 ?_
      exact hE _ _ _ _ dX5_member_87 rfl ⟨by unfold memI; repeat (first | rw [if_pos (by omega)] | rw [if_neg (by omega)]), rfl⟩
    · skip
      refine r_tabIn (off := 77) (tgt := 88) O ⟨by omega, by omega⟩ dX5_member_11 (by omega) (by omega) (by rw [hsw]; rfl) (by decide) ?_
      refine n_aload_n O dX5_member_88 rfl ?_
      refine O_get_1 O hN fl_X5_19 dX5_member_89 ?_
      refine t_arr_ea O hN (by decide) fl_X5_108 dX5_member_92 ?_
      refine n_iload_n O dX5_member_95 rfl ?_
      refine t_ld_ea O hN (by decide) (by omega) (by omega) dX5_member_96 ?_
      exact hE _ _ _ _ dX5_member_97 rfl ⟨by unfold memI; repeat (first | rw [if_pos (by omega)] | rw [if_neg (by omega)]), rfl⟩
    · skip
      refine r_tabIn (off := 87) (tgt := 98) O ⟨by omega, by omega⟩ dX5_member_11 (by omega) (by omega) (by rw [hsw]; rfl) (by decide) ?_
      refine n_aload_n O dX5_member_98 rfl ?_
      refine O_get_1 O hN fl_X5_19 dX5_member_99 ?_
      refine n_iload_n O dX5_member_102 rfl ?_
      refine r_callV1i O (E_X3_share hI hN c 0 (by decide) hv i (by omega) (by omega)) q_X5_111 (by rw [hN]; omega) (lay_j0 K _ _) rfl rfl (by decide) (by decide) (Nat.le_of_ble_eq_true rfl) dX5_member_103 (fun zz103 zu103 hz103 => ?_)
      obtain ⟨rfl, rfl⟩ := hz103
      exact hE _ _ _ _ dX5_member_106 rfl ⟨by unfold memI; repeat (first | rw [if_pos (by omega)] | rw [if_neg (by omega)]), rfl⟩
  · skip
    refine r_iconst O dX5_member_8 ?_
    exact hE _ _ _ _ dX5_member_9 rfl ⟨by unfold memI; repeat (first | rw [if_pos (by omega)] | rw [if_neg (by omega)]), rfl⟩
set_option maxHeartbeats 4000000 in
theorem C_X5_lay {K : zK} (hI : zInj K) (hN : kN K = 85) (c : CS) (hc : okC c)  : zCi K yX5_lay cX5_lay 1 (some .int) 5 [.ref (kad K 0)] (layC K c) (fun z u => ∃ (nu1 : Int → Int) (w : SV) (y : Int), okN nu1 ∧ faultP c.2.1.1 c.2.1.2.2 (c.1 1) y w ∧ (((y = -4 ∧ qn w ≠ 0) ∧ z = qn w ∧ u = layC K (wP (wU (wV (wS (wT (wS c 1 w) (c.2.1.1, nu1, c.2.1.2.2)) 0 (cpV w (c.1 0))) (c.2.2.2.1.1, c.2.2.2.1.2.1, 0)) (c.2.2.2.2.1.1, 0)) (c.2.2.2.2.2.1, 0))) ∨ (¬ (y = -4 ∧ qn w ≠ 0) ∧ z = -2 ∧ u = layC K (wT (wS c 1 w) (c.2.1.1, nu1, c.2.1.2.2))))) := by
  obtain ⟨hv, ht, hnu, hw, hU, hP⟩ := id hc
  have hle := ht.1
  refine zCi_in hI (by decide +kernel) (Nat.le_of_ble_eq_true rfl) (fun X O hE => ?_)
  refine n_aload_n O dX5_lay_0 rfl ?_
  refine O_get_0 O hN fl_X5_10 dX5_lay_1 ?_
  refine n_aload_n O dX5_lay_4 rfl ?_
  refine O_get_2 O hN fl_X5_23 dX5_lay_5 ?_
  refine r_callV1i O (E_X4_layOut hI hN _ ht hnu 1 (by decide)) q_X5_68 (by rw [hN]; decide) (fs := _) rfl rfl rfl (by decide) (by decide) (Nat.le_of_ble_eq_true rfl) dX5_lay_8 (fun zz8 zu8 hz8 => ?_)
  obtain ⟨nu1, w, hnu1, hfp, rfl⟩ := hz8
  have hfc := faultP_c hle.1 hfp
  refine r_bipush O (by decide +kernel) dX5_lay_11 ?_
  refine r_icmp_ne (tgt := 26) O ⟨by omega, by omega⟩ ⟨by omega, by omega⟩ dX5_lay_13 (by decide) (fun hc13 => ?_) (fun hc13 => ?_)
  · skip
    refine r_bipush O (by decide +kernel) dX5_lay_26 ?_
    exact hE _ _ _ _ dX5_lay_28 rfl ⟨nu1, w, _, hnu1, hfp, Or.inr ⟨by omega, rfl, rfl⟩⟩
  · skip
    have hwq : okV w := by rcases hfc with ⟨_, h⟩ | ⟨_, h, _⟩; exact h; exfalso; omega
    have hwn := hwq.1
    refine n_aload_n O dX5_lay_16 rfl ?_
    refine O_get_2 O hN fl_X5_23 dX5_lay_17 ?_
    refine t_get_n O hN (by decide) fl_X5_82 dX5_lay_20 ?_
    refine G_st (st' := .int (iI (qn w)) :: _) (by have e1 : (wT (wS c 1 w) (c.2.1.1, nu1, c.2.1.2.2)).1 1 = w := wS_s c 1 w; rw [e1]) ?_
    refine r_if_ne (tgt := 29) O ⟨by omega, by omega⟩ dX5_lay_23 (by decide) (fun hc23 => ?_) (fun hc23 => ?_)
    · skip
      refine n_aload_n O dX5_lay_29 rfl ?_
      refine O_get_1 O hN fl_X5_19 dX5_lay_30 ?_
      refine n_aload_n O dX5_lay_33 rfl ?_
      refine O_get_2 O hN fl_X5_23 dX5_lay_34 ?_
      refine r_callV1v O (E_X3_takeOver hI hN (wT (wS c 1 w) (c.2.1.1, nu1, c.2.1.2.2)) 0 (by decide) 1 (by decide) (by decide)) q_X5_85 (by rw [hN]; omega) (lay_j0 K _ _) rfl rfl (by decide) (by decide) (Nat.le_of_ble_eq_true rfl) dX5_lay_37 (fun zu37 hz37 => ?_)
      have e1 : (wT (wS c 1 w) (c.2.1.1, nu1, c.2.1.2.2)).1 1 = w := wS_s c 1 w
      have e2 : (wT (wS c 1 w) (c.2.1.1, nu1, c.2.1.2.2)).1 0 = c.1 0 := wS_n c w (show (0 : Nat) ≠ 1 by decide)
      rw [e1, e2] at hz37
      obtain rfl := hz37
      refine n_aload_n O dX5_lay_40 rfl ?_
      refine O_get_4 O hN fl_X5_36 dX5_lay_41 ?_
      refine r_callV0v O (E_X2_clear hI hN _) q_X5_89 (by rw [hN]; decide) (fs := _) rfl rfl rfl (by decide) (by decide) (Nat.le_of_ble_eq_true rfl) dX5_lay_44 (fun zu44 hz44 => ?_)
      obtain rfl := hz44
      refine n_aload_n O dX5_lay_47 rfl ?_
      refine O_get_5 O hN fl_X5_45 dX5_lay_48 ?_
      refine r_callV0v O (E_X0_clear_U hI hN _) q_X5_90 (by rw [hN]; decide) (fs := _) rfl rfl rfl (by decide) (by decide) (Nat.le_of_ble_eq_true rfl) dX5_lay_51 (fun zu51 hz51 => ?_)
      obtain rfl := hz51
      refine n_aload_n O dX5_lay_54 rfl ?_
      refine O_get_6 O hN fl_X5_49 dX5_lay_55 ?_
      refine r_callV0v O (E_X0_clear_P hI hN _) q_X5_90 (by rw [hN]; decide) (fs := _) rfl rfl rfl (by decide) (by decide) (Nat.le_of_ble_eq_true rfl) dX5_lay_58 (fun zu58 hz58 => ?_)
      obtain rfl := hz58
      refine n_aload_n O dX5_lay_61 rfl ?_
      refine O_get_1 O hN fl_X5_19 dX5_lay_62 ?_
      refine t_get_n O hN (by decide) fl_X5_82 dX5_lay_65 ?_
      refine G_st (st' := .int (iI (qn w)) :: _) rfl ?_
      exact hE _ _ _ _ dX5_lay_68 rfl ⟨nu1, w, _, hnu1, hfp, Or.inl ⟨by omega, rfl, rfl⟩⟩
    · skip
      refine r_bipush O (by decide +kernel) dX5_lay_26 ?_
      exact hE _ _ _ _ dX5_lay_28 rfl ⟨nu1, w, _, hnu1, hfp, Or.inr ⟨by omega, rfl, rfl⟩⟩
