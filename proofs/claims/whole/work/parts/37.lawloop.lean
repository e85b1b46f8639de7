/-! THE LAW'S LOOP -/
theorem pk_31 (x : Int32) : ∃ j : Nat, j < 32 ∧ x &&& iI 31 = iI (j : Int) := by
  obtain ⟨j, hj, e⟩ := pk_andE x (m := iI 31) 5 (by decide)
  exact ⟨j, hj, by rw [e, iI_n]⟩
set_option maxHeartbeats 4000000 in
theorem jloop {K : zK} {X : zX} {ret : Option FieldType} {f b L : Nat} {sc : Nat → Int32} (O : zO K X cL_law RL ret 4 f) (hf : 6 ≤ f) (hN : kN K = 96) (hJ : jS K X b L sc) (hE : ∀ (lo : List (Nat × Value)) (ct : zE), G K X 4 765 lo [.int (iI 1)] ct) : ∀ (q n : Nat) (u1 u2 : zE), 4 * n + q = 2052 → jRel (zpt K 0 85) (zpt K 85 11) u1 u2 → G K X 4 18 [(0, .ref b), (1, .ref (kad K 0)), (2, .ref (kad K 85)), (3, .int (iI ((4 * n : Nat) : Int)))] [] (jlaw u1 u2) := by
  have hL : L ≤ 2048 := hJ.2.2.2
  intro q
  induction q using Nat.strongRecOn with
  | ind q ih =>
    intro n u1 u2 hq hR
    refine n_iload_n O dL_law_18 rfl ?_
    refine n_aload_n O dL_law_19 rfl ?_
    refine r_slen O hJ dL_law_20 ?_
    refine r_iconst O dL_law_21 ?_
    refine r_isub O dL_law_22 ?_
    refine r_icmp_gt (tgt := 764) O ⟨by omega, by omega⟩ ⟨by omega, by omega⟩ dL_law_23 (by decide) (fun _ => ?_) (fun hc => ?_)
    · refine r_iconst O dL_law_764 ?_
      exact hE _ _
    · have nx : ∀ w1 w2 : zE, jRel (zpt K 0 85) (zpt K 85 11) w1 w2 → G K X 4 758 [(0, .ref b), (1, .ref (kad K 0)), (2, .ref (kad K 85)), (3, .int (iI ((4 * n : Nat) : Int)))] [] (jlaw w1 w2) := by
        intro w1 w2 hw
        refine n_iinc O dL_law_758 (by decide) rfl rfl ?_
        refine r_goto (tgt := 18) O dL_law_761 (by decide) ?_
        exact G_chk (ih (q - 4) (by omega) (n + 1) w1 w2 (by omega) hw) (zsc rfl (zsc rfl (zsc rfl (zsc (by rw [show ((4 * (n + 1) : Nat) : Int) = ((4 * n : Nat) : Int) + 4 by omega]; rfl) zsn))))
      refine n_aload_n O dL_law_26 rfl ?_
      refine n_iload_n O dL_law_27 rfl ?_
      refine r_sld O hJ (by omega) (by omega) dL_law_28 ?_
      refine r_bipush O (by decide +kernel) dL_law_29 ?_
      obtain ⟨j, hj, e⟩ := pk_31 (iI (sc ((4 * n : Nat) : Int).toNat).toInt)
      refine r_iand (z := (j : Int)) O e dL_law_31 ?_
      have i0 : (0 : Int) ≤ ((4 * n : Nat) : Int) := by omega
      have i1 : ((4 * n : Nat) : Int) + 4 ≤ (L : Int) := by omega
      have hsw : j = 0 ∨ j = 1 ∨ j = 2 ∨ j = 3 ∨ j = 4 ∨ j = 5 ∨ j = 6 ∨ j = 7 ∨ j = 8 ∨ j = 9 ∨ j = 10 ∨ j = 11 ∨ j = 12 ∨ j = 13 ∨ j = 14 ∨ j = 15 ∨ j = 16 ∨ j = 17 ∨ j = 18 ∨ j = 19 ∨ j = 20 ∨ j = 21 ∨ j = 22 ∨ j = 23 ∨ j = 24 ∨ j = 25 ∨ j = 26 ∨ j = 27 ∨ j = 28 ∨ j = 29 ∨ 30 ≤ j := by omega
      rcases hsw with hsw | hsw | hsw | hsw | hsw | hsw | hsw | hsw | hsw | hsw | hsw | hsw | hsw | hsw | hsw | hsw | hsw | hsw | hsw | hsw | hsw | hsw | hsw | hsw | hsw | hsw | hsw | hsw | hsw | hsw | hsw
      · subst hsw
        refine r_tabIn (off := 136) (tgt := 168) O ⟨by decide, by decide⟩ dL_law_32 (by decide) (by decide) rfl (by decide) ?_
        exact jop_write O hf hN hJ i0 i1 hR nx
      · subst hsw
        refine r_tabIn (off := 159) (tgt := 191) O ⟨by decide, by decide⟩ dL_law_32 (by decide) (by decide) rfl (by decide) ?_
        exact jop_wipe O hf hN hJ i0 i1 hR nx
      · subst hsw
        refine r_tabIn (off := 172) (tgt := 204) O ⟨by decide, by decide⟩ dL_law_32 (by decide) (by decide) rfl (by decide) ?_
        exact jop_fault O hf hN hJ i0 i1 hR nx
      · subst hsw
        refine r_tabIn (off := 185) (tgt := 217) O ⟨by decide, by decide⟩ dL_law_32 (by decide) (by decide) rfl (by decide) ?_
        exact jop_lay O hf hN hJ i0 i1 hR nx
      · subst hsw
        refine r_tabIn (off := 198) (tgt := 230) O ⟨by decide, by decide⟩ dL_law_32 (by decide) (by decide) rfl (by decide) ?_
        exact jop_member O hf hN hJ i0 i1 hR nx
      · subst hsw
        refine r_tabIn (off := 231) (tgt := 263) O ⟨by decide, by decide⟩ dL_law_32 (by decide) (by decide) rfl (by decide) ?_
        exact jop_eat O hf hN hJ i0 i1 hR nx
      · subst hsw
        refine r_tabIn (off := 254) (tgt := 286) O ⟨by decide, by decide⟩ dL_law_32 (by decide) (by decide) rfl (by decide) ?_
        exact jop_salt O hf hN hJ i0 i1 hR nx
      · subst hsw
        refine r_tabIn (off := 267) (tgt := 299) O ⟨by decide, by decide⟩ dL_law_32 (by decide) (by decide) rfl (by decide) ?_
        exact jop_cook O hf hN hJ i0 i1 hR nx
      · subst hsw
        refine r_tabIn (off := 290) (tgt := 322) O ⟨by decide, by decide⟩ dL_law_32 (by decide) (by decide) rfl (by decide) ?_
        exact jop_cool O hf hN hJ i0 i1 hR nx
      · subst hsw
        refine r_tabIn (off := 303) (tgt := 335) O ⟨by decide, by decide⟩ dL_law_32 (by decide) (by decide) rfl (by decide) ?_
        exact jop_trade O hf hN hJ i0 i1 hR nx
      · subst hsw
        refine r_tabIn (off := 336) (tgt := 368) O ⟨by decide, by decide⟩ dL_law_32 (by decide) (by decide) rfl (by decide) ?_
        exact jop_fast O hf hN hJ i0 i1 hR nx
      · subst hsw
        refine r_tabIn (off := 349) (tgt := 381) O ⟨by decide, by decide⟩ dL_law_32 (by decide) (by decide) rfl (by decide) ?_
        exact jop_undo O hf hN hJ i0 i1 hR nx
      · subst hsw
        refine r_tabIn (off := 362) (tgt := 394) O ⟨by decide, by decide⟩ dL_law_32 (by decide) (by decide) rfl (by decide) ?_
        exact jop_passes O hf hN hJ i0 i1 hR nx
      · subst hsw
        refine r_tabIn (off := 375) (tgt := 407) O ⟨by decide, by decide⟩ dL_law_32 (by decide) (by decide) rfl (by decide) ?_
        exact jop_left O hf hN hJ i0 i1 hR nx
      · subst hsw
        refine r_tabIn (off := 398) (tgt := 430) O ⟨by decide, by decide⟩ dL_law_32 (by decide) (by decide) rfl (by decide) ?_
        exact jop_scraper O hf hN hJ i0 i1 hR nx
      · subst hsw
        refine r_tabIn (off := 411) (tgt := 443) O ⟨by decide, by decide⟩ dL_law_32 (by decide) (by decide) rfl (by decide) ?_
        exact jop_spoil O hf hN hJ i0 i1 hR nx
      · subst hsw
        refine r_tabIn (off := 424) (tgt := 456) O ⟨by decide, by decide⟩ dL_law_32 (by decide) (by decide) rfl (by decide) ?_
        exact jop_waits O hf hN hJ i0 i1 hR nx
      · subst hsw
        refine r_tabIn (off := 437) (tgt := 469) O ⟨by decide, by decide⟩ dL_law_32 (by decide) (by decide) rfl (by decide) ?_
        exact jop_most O hf hN hJ i0 i1 hR nx
      · subst hsw
        refine r_tabIn (off := 450) (tgt := 482) O ⟨by decide, by decide⟩ dL_law_32 (by decide) (by decide) rfl (by decide) ?_
        exact jop_fasts O hf hN hJ i0 i1 hR nx
      · subst hsw
        refine r_tabIn (off := 463) (tgt := 495) O ⟨by decide, by decide⟩ dL_law_32 (by decide) (by decide) rfl (by decide) ?_
        exact jop_cabal O hf hN hJ i0 i1 hR nx
      · subst hsw
        refine r_tabIn (off := 486) (tgt := 518) O ⟨by decide, by decide⟩ dL_law_32 (by decide) (by decide) rfl (by decide) ?_
        exact jop_trades O hf hN hJ i0 i1 hR nx
      · subst hsw
        refine r_tabIn (off := 499) (tgt := 531) O ⟨by decide, by decide⟩ dL_law_32 (by decide) (by decide) rfl (by decide) ?_
        exact jop_power O hf hN hJ i0 i1 hR nx
      · subst hsw
        refine r_tabIn (off := 532) (tgt := 564) O ⟨by decide, by decide⟩ dL_law_32 (by decide) (by decide) rfl (by decide) ?_
        exact jop_seen O hf hN hJ i0 i1 hR nx
      · subst hsw
        refine r_tabIn (off := 565) (tgt := 597) O ⟨by decide, by decide⟩ dL_law_32 (by decide) (by decide) rfl (by decide) ?_
        exact jop_forget O hf hN hJ i0 i1 hR nx
      · subst hsw
        refine r_tabIn (off := 578) (tgt := 610) O ⟨by decide, by decide⟩ dL_law_32 (by decide) (by decide) rfl (by decide) ?_
        exact jop_may O hf hN hJ i0 i1 hR nx
      · subst hsw
        refine r_tabIn (off := 601) (tgt := 633) O ⟨by decide, by decide⟩ dL_law_32 (by decide) (by decide) rfl (by decide) ?_
        exact jop_likely O hf hN hJ i0 i1 hR nx
      · subst hsw
        refine r_tabIn (off := 634) (tgt := 666) O ⟨by decide, by decide⟩ dL_law_32 (by decide) (by decide) rfl (by decide) ?_
        exact jop_century O hf hN hJ i0 i1 hR nx
      · subst hsw
        refine r_tabIn (off := 677) (tgt := 709) O ⟨by decide, by decide⟩ dL_law_32 (by decide) (by decide) rfl (by decide) ?_
        exact jop_keep O hf hN hJ i0 i1 hR nx
      · subst hsw
        refine r_tabIn (off := 690) (tgt := 722) O ⟨by decide, by decide⟩ dL_law_32 (by decide) (by decide) rfl (by decide) ?_
        exact jop_back O hf hN hJ i0 i1 hR nx
      · subst hsw
        refine r_tabIn (off := 703) (tgt := 735) O ⟨by decide, by decide⟩ dL_law_32 (by decide) (by decide) rfl (by decide) ?_
        exact jop_count O hf hN hJ i0 i1 hR nx
      · refine r_tabOut (tgt := 758) O ⟨by omega, by omega⟩ dL_law_32 (Or.inr (by omega)) (by decide) ?_
        exact nx _ _ hR
