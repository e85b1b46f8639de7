/-! THE LAW'S CASES -/
def jlaw (u1 u2 : zE) : zE := fun k => if k < 85 then u1 k else u2 (k - 85)
theorem jlaw_1 {u1 u2 : zE} {i : Nat} (h : i < 85) : jlaw u1 u2 (0 + i) = u1 i := by
  rw [Nat.zero_add]
  exact if_pos h
theorem jlaw_2 {u1 u2 : zE} {i : Nat} : jlaw u1 u2 (85 + i) = u2 i := by
  unfold jlaw
  rw [if_neg (by omega), Nat.add_sub_cancel_left]
theorem jlaw_m1 {u1 u2 w : zE} : zmix 0 85 w (jlaw u1 u2) = jlaw w u2 := by
  funext k
  unfold zmix jlaw
  by_cases h : k < 85
  · rw [if_pos ⟨by omega, by omega⟩, if_pos h]
    rfl
  · rw [if_neg (by omega), if_neg h, if_neg h]
theorem jlaw_m2 {u1 u2 w : zE} {k : Nat} (hk : k < 96) : zmix 85 11 w (jlaw u1 u2) k = jlaw u1 w k := by
  unfold zmix jlaw
  by_cases h : k < 85
  · rw [if_neg (by omega), if_pos h, if_pos h]
  · rw [if_pos ⟨by omega, by omega⟩, if_neg h]
/-- the script -/
def jS (K : zK) (X : zX) (b L : Nat) (sc : Nat → Int32) : Prop := va_X b L sc (xs X) (xs X).heap ∧ b < (xs X).heap.size ∧ ¬ kA K b ∧ L ≤ 2048
theorem r_sld {K : zK} {X : zX} {cc : ByteArray} {own : String} {ret : Option FieldType} {nL f pc : Nat} {lo : List (Nat × Value)} {st : List Value} {ct : zE} {b L : Nat} {sc : Nat → Int32} {z : Int} (O : zO K X cc own ret nL f) (hJ : jS K X b L sc) (h0 : 0 ≤ z) (h1 : z < L) (hd : decode cc pc = .ok (.iaload, 1)) (k : G K X nL (pc + 1) lo (.int (iI (sc z.toNat).toInt) :: st) ct) : G K X nL pc lo (.int (iI z) :: .ref b :: st) ct := by
  obtain ⟨l, D, A, ad, N, cI, cC, cS⟩ := K
  obtain ⟨p, e, R, s, m, args, below, meth, c, Q, cells, slots⟩ := X
  obtain ⟨hx, hb, hr, hml, hown, hts, hlk, hK, hZ, hI, hf1, hf2, hc1, hc2⟩ := O
  intro H locs ls hP hS hl
  have hL : L ≤ 2048 := hJ.2.2.2
  refine va_sld hx hb hJ.1 hJ.2.1 hJ.2.2.1 hS (iI_in h0 h1 (by omega)) hd ?_
  have e : sc (iI z).toNatClampNeg = iI (sc z.toNat).toInt := by
    rw [iI_cl h0 (by omega)]
    exact iI_of _
  rw [e]
  exact k H locs ls hP hS hl
theorem r_slen {K : zK} {X : zX} {cc : ByteArray} {own : String} {ret : Option FieldType} {nL f pc : Nat} {lo : List (Nat × Value)} {st : List Value} {ct : zE} {b L : Nat} {sc : Nat → Int32} (O : zO K X cc own ret nL f) (hJ : jS K X b L sc) (hd : decode cc pc = .ok (.arraylength, 1)) (k : G K X nL (pc + 1) lo (.int (iI (L : Int)) :: st) ct) : G K X nL pc lo (.ref b :: st) ct := by
  obtain ⟨l, D, A, ad, N, cI, cC, cS⟩ := K
  obtain ⟨p, e, R, s, m, args, below, meth, c, Q, cells, slots⟩ := X
  obtain ⟨hx, hb, hr, hml, hown, hts, hlk, hK, hZ, hI, hf1, hf2, hc1, hc2⟩ := O
  intro H locs ls hP hS hl
  refine va_slen hx hb hJ.1 hJ.2.1 hJ.2.2.1 hS hd ?_
  rw [iI_nat]
  exact k H locs ls hP hS hl
theorem r_same {K : zK} {X : zX} {cc : ByteArray} {own : String} {ret : Option FieldType} {nL f pc : Nat} {lo : List (Nat × Value)} {st : List Value} {ct : zE} {x : Int32} {off : Int} {tgt : Nat} (O : zO K X cc own ret nL f) (hd : decode cc pc = .ok (.if_icmp .eq off, 3)) (ht : (pc : Int) + off = (tgt : Int)) (k : G K X nL tgt lo st ct) : G K X nL pc lo (.int x :: .int x :: st) ct := by
  obtain ⟨l, D, A, ad, N, cI, cC, cS⟩ := K
  obtain ⟨p, e, R, s, m, args, below, meth, c, Q, cells, slots⟩ := X
  obtain ⟨hx, hb, hr, hml, hown, hts, hlk, hK, hZ, hI, hf1, hf2, hc1, hc2⟩ := O
  intro H locs ls hP hS hl
  exact lv_icmp_eq hx hb hd ht (fun _ => k H locs ls hP hS hl) (fun h => absurd rfl h)
set_option maxHeartbeats 2000000 in
theorem jop_write {K : zK} {X : zX} {ret : Option FieldType} {f b L : Nat} {sc : Nat → Int32} {i : Int} (O : zO K X cL_law RL ret 4 f) (hf : 6 ≤ f) (hN : kN K = 96) (hJ : jS K X b L sc) (i0 : 0 ≤ i) (i1 : i + 4 ≤ (L : Int)) {u1 u2 : zE} (hR : jRel (zpt K 0 85) (zpt K 85 11) u1 u2) (k : ∀ w1 w2 : zE, jRel (zpt K 0 85) (zpt K 85 11) w1 w2 → G K X 4 758 [(0, .ref b), (1, .ref (kad K 0)), (2, .ref (kad K 85)), (3, .int (iI i))] [] (jlaw w1 w2)) : G K X 4 168 [(0, .ref b), (1, .ref (kad K 0)), (2, .ref (kad K 85)), (3, .int (iI i))] [] (jlaw u1 u2) := by
  obtain ⟨c, tx, ty, td, dr, bg, ss, pa, kn, im, kp, ns, nd, ap, la, hh, tt, h, rfl, rfl⟩ := hR
  have hI1 : zInj (zpt K 0 85) := zpt_inj (zO_I O) (by omega)
  have hI2 : zInj (zpt K 85 11) := zpt_inj (zO_I O) (by omega)
  refine n_aload_n O dL_law_168 rfl ?_
  refine n_aload_n O dL_law_169 rfl ?_
  refine n_iload_n O dL_law_170 rfl ?_
  refine r_iconst O dL_law_171 ?_
  refine r_iadd O dL_law_172 ?_
  refine r_sld O hJ (by omega) (by omega) dL_law_173 ?_
  refine r_fV1i (o := 0) 0 85 O (by omega) (fun j hj => jlaw_1 hj) (C_X5_write hI1 rfl c h.1 _ (zB_toInt _)) q_L_13 (by decide) (fs := _) rfl rfl rfl (by omega) (by decide) (Nat.le_of_ble_eq_true rfl) dL_law_174 (fun z1 w1 hz1 => ?_)
  refine G_ct jlaw_m1 ?_
  refine n_aload_n O dL_law_177 rfl ?_
  refine n_aload_n O dL_law_178 rfl ?_
  refine n_iload_n O dL_law_179 rfl ?_
  refine r_iconst O dL_law_180 ?_
  refine r_iadd O dL_law_181 ?_
  refine r_sld O hJ (by omega) (by omega) dL_law_182 ?_
  refine r_fV1i (o := 0) 85 11 O (by omega) (fun j hj => jlaw_2) (C_X6_write hI2 rfl tx ty td dr bg ss pa kn im kp ns nd ap la hh tt (jR_okT h) _ (zB_toInt _)) q_L_17 (by decide) (fs := _) rfl rfl rfl (by omega) (by decide) (Nat.le_of_ble_eq_true rfl) dL_law_183 (fun z2 w2 hz2 => ?_)
  obtain ⟨hz, hr⟩ := op_write (ap := ap) (la := la) (dr := dr) (bg := bg) (hh := hh) (tt := tt) h hz1 hz2
  subst hz
  refine r_same (tgt := 758) O dL_law_186 (by decide) ?_
  exact G_eqN (fun q hq => jlaw_m2 (by omega)) (k _ _ hr)
set_option maxHeartbeats 2000000 in
theorem jop_wipe {K : zK} {X : zX} {ret : Option FieldType} {f b L : Nat} {sc : Nat → Int32} {i : Int} (O : zO K X cL_law RL ret 4 f) (hf : 6 ≤ f) (hN : kN K = 96) (hJ : jS K X b L sc) (i0 : 0 ≤ i) (i1 : i + 4 ≤ (L : Int)) {u1 u2 : zE} (hR : jRel (zpt K 0 85) (zpt K 85 11) u1 u2) (k : ∀ w1 w2 : zE, jRel (zpt K 0 85) (zpt K 85 11) w1 w2 → G K X 4 758 [(0, .ref b), (1, .ref (kad K 0)), (2, .ref (kad K 85)), (3, .int (iI i))] [] (jlaw w1 w2)) : G K X 4 191 [(0, .ref b), (1, .ref (kad K 0)), (2, .ref (kad K 85)), (3, .int (iI i))] [] (jlaw u1 u2) := by
  obtain ⟨c, tx, ty, td, dr, bg, ss, pa, kn, im, kp, ns, nd, ap, la, hh, tt, h, rfl, rfl⟩ := hR
  have hI1 : zInj (zpt K 0 85) := zpt_inj (zO_I O) (by omega)
  have hI2 : zInj (zpt K 85 11) := zpt_inj (zO_I O) (by omega)
  refine n_aload_n O dL_law_191 rfl ?_
  refine r_fV0i (o := 0) 0 85 O (by omega) (fun j hj => jlaw_1 hj) (C_X5_wipe hI1 rfl c h.1 ) q_L_18 (by decide) (fs := _) rfl rfl rfl (by omega) (by decide) (Nat.le_of_ble_eq_true rfl) dL_law_192 (fun z1 w1 hz1 => ?_)
  refine G_ct jlaw_m1 ?_
  refine n_aload_n O dL_law_195 rfl ?_
  refine r_fV0i (o := 0) 85 11 O (by omega) (fun j hj => jlaw_2) (C_X6_wipe hI2 rfl tx ty td dr bg ss pa kn im kp ns nd ap la hh tt  ) q_L_22 (by decide) (fs := _) rfl rfl rfl (by omega) (by decide) (Nat.le_of_ble_eq_true rfl) dL_law_196 (fun z2 w2 hz2 => ?_)
  obtain ⟨hz, hr⟩ := op_wipe (ap := ap) (la := la) (dr := dr) (bg := bg) (hh := hh) (tt := tt) h hz1 hz2
  subst hz
  refine r_same (tgt := 758) O dL_law_199 (by decide) ?_
  exact G_eqN (fun q hq => jlaw_m2 (by omega)) (k _ _ hr)
set_option maxHeartbeats 2000000 in
theorem jop_fault {K : zK} {X : zX} {ret : Option FieldType} {f b L : Nat} {sc : Nat → Int32} {i : Int} (O : zO K X cL_law RL ret 4 f) (hf : 6 ≤ f) (hN : kN K = 96) (hJ : jS K X b L sc) (i0 : 0 ≤ i) (i1 : i + 4 ≤ (L : Int)) {u1 u2 : zE} (hR : jRel (zpt K 0 85) (zpt K 85 11) u1 u2) (k : ∀ w1 w2 : zE, jRel (zpt K 0 85) (zpt K 85 11) w1 w2 → G K X 4 758 [(0, .ref b), (1, .ref (kad K 0)), (2, .ref (kad K 85)), (3, .int (iI i))] [] (jlaw w1 w2)) : G K X 4 204 [(0, .ref b), (1, .ref (kad K 0)), (2, .ref (kad K 85)), (3, .int (iI i))] [] (jlaw u1 u2) := by
  obtain ⟨c, tx, ty, td, dr, bg, ss, pa, kn, im, kp, ns, nd, ap, la, hh, tt, h, rfl, rfl⟩ := hR
  have hI1 : zInj (zpt K 0 85) := zpt_inj (zO_I O) (by omega)
  have hI2 : zInj (zpt K 85 11) := zpt_inj (zO_I O) (by omega)
  refine n_aload_n O dL_law_204 rfl ?_
  refine r_fV0i (o := 0) 0 85 O (by omega) (fun j hj => jlaw_1 hj) (C_X5_fault hI1 rfl c h.1 ) q_L_23 (by decide) (fs := _) rfl rfl rfl (by omega) (by decide) (Nat.le_of_ble_eq_true rfl) dL_law_205 (fun z1 w1 hz1 => ?_)
  refine G_ct jlaw_m1 ?_
  refine n_aload_n O dL_law_208 rfl ?_
  refine r_fV0i (o := 0) 85 11 O (by omega) (fun j hj => jlaw_2) (C_X6_fault hI2 rfl tx ty td dr bg ss pa kn im kp ns nd ap la hh tt (jR_okT h) (c.1 1) ) q_L_26 (by decide) (fs := _) rfl rfl rfl (by omega) (by decide) (Nat.le_of_ble_eq_true rfl) dL_law_209 (fun z2 w2 hz2 => ?_)
  obtain ⟨hz, hr⟩ := op_fault (ap := ap) (la := la) (dr := dr) (bg := bg) (hh := hh) (tt := tt) h hz1 hz2
  subst hz
  refine r_same (tgt := 758) O dL_law_212 (by decide) ?_
  exact G_eqN (fun q hq => jlaw_m2 (by omega)) (k _ _ hr)
set_option maxHeartbeats 2000000 in
theorem jop_lay {K : zK} {X : zX} {ret : Option FieldType} {f b L : Nat} {sc : Nat → Int32} {i : Int} (O : zO K X cL_law RL ret 4 f) (hf : 6 ≤ f) (hN : kN K = 96) (hJ : jS K X b L sc) (i0 : 0 ≤ i) (i1 : i + 4 ≤ (L : Int)) {u1 u2 : zE} (hR : jRel (zpt K 0 85) (zpt K 85 11) u1 u2) (k : ∀ w1 w2 : zE, jRel (zpt K 0 85) (zpt K 85 11) w1 w2 → G K X 4 758 [(0, .ref b), (1, .ref (kad K 0)), (2, .ref (kad K 85)), (3, .int (iI i))] [] (jlaw w1 w2)) : G K X 4 217 [(0, .ref b), (1, .ref (kad K 0)), (2, .ref (kad K 85)), (3, .int (iI i))] [] (jlaw u1 u2) := by
  obtain ⟨c, tx, ty, td, dr, bg, ss, pa, kn, im, kp, ns, nd, ap, la, hh, tt, h, rfl, rfl⟩ := hR
  have hI1 : zInj (zpt K 0 85) := zpt_inj (zO_I O) (by omega)
  have hI2 : zInj (zpt K 85 11) := zpt_inj (zO_I O) (by omega)
  refine n_aload_n O dL_law_217 rfl ?_
  refine r_fV0i (o := 0) 0 85 O (by omega) (fun j hj => jlaw_1 hj) (C_X5_lay hI1 rfl c h.1 ) q_L_27 (by decide) (fs := _) rfl rfl rfl (by omega) (by decide) (Nat.le_of_ble_eq_true rfl) dL_law_218 (fun z1 w1 hz1 => ?_)
  refine G_ct jlaw_m1 ?_
  refine n_aload_n O dL_law_221 rfl ?_
  refine r_fV0i (o := 0) 85 11 O (by omega) (fun j hj => jlaw_2) (C_X6_lay hI2 rfl tx ty td dr bg ss pa kn im kp ns nd ap la hh tt (jR_okT h) (c.1 1) ) q_L_30 (by decide) (fs := _) rfl rfl rfl (by omega) (by decide) (Nat.le_of_ble_eq_true rfl) dL_law_222 (fun z2 w2 hz2 => ?_)
  obtain ⟨hz, hr⟩ := op_lay (ap := ap) (la := la) (dr := dr) (bg := bg) (hh := hh) (tt := tt) h hz1 hz2
  subst hz
  refine r_same (tgt := 758) O dL_law_225 (by decide) ?_
  exact G_eqN (fun q hq => jlaw_m2 (by omega)) (k _ _ hr)
set_option maxHeartbeats 2000000 in
theorem jop_member {K : zK} {X : zX} {ret : Option FieldType} {f b L : Nat} {sc : Nat → Int32} {i : Int} (O : zO K X cL_law RL ret 4 f) (hf : 6 ≤ f) (hN : kN K = 96) (hJ : jS K X b L sc) (i0 : 0 ≤ i) (i1 : i + 4 ≤ (L : Int)) {u1 u2 : zE} (hR : jRel (zpt K 0 85) (zpt K 85 11) u1 u2) (k : ∀ w1 w2 : zE, jRel (zpt K 0 85) (zpt K 85 11) w1 w2 → G K X 4 758 [(0, .ref b), (1, .ref (kad K 0)), (2, .ref (kad K 85)), (3, .int (iI i))] [] (jlaw w1 w2)) : G K X 4 230 [(0, .ref b), (1, .ref (kad K 0)), (2, .ref (kad K 85)), (3, .int (iI i))] [] (jlaw u1 u2) := by
  obtain ⟨c, tx, ty, td, dr, bg, ss, pa, kn, im, kp, ns, nd, ap, la, hh, tt, h, rfl, rfl⟩ := hR
  have hI1 : zInj (zpt K 0 85) := zpt_inj (zO_I O) (by omega)
  have hI2 : zInj (zpt K 85 11) := zpt_inj (zO_I O) (by omega)
  refine n_aload_n O dL_law_230 rfl ?_
  refine n_aload_n O dL_law_231 rfl ?_
  refine n_iload_n O dL_law_232 rfl ?_
  refine r_iconst O dL_law_233 ?_
  refine r_iadd O dL_law_234 ?_
  refine r_sld O hJ (by omega) (by omega) dL_law_235 ?_
  refine n_aload_n O dL_law_236 rfl ?_
  refine n_iload_n O dL_law_237 rfl ?_
  refine r_iconst O dL_law_238 ?_
  refine r_iadd O dL_law_239 ?_
  refine r_sld O hJ (by omega) (by omega) dL_law_240 ?_
  refine r_fV2i (o := 0) 0 85 O (by omega) (fun j hj => jlaw_1 hj) (C_X5_member hI1 rfl c h.1 _ (zB_toInt _) _ (zB_toInt _)) q_L_31 (by decide) (fs := _) rfl rfl rfl (by omega) (by decide) (Nat.le_of_ble_eq_true rfl) dL_law_241 (fun z1 w1 hz1 => ?_)
  refine G_ct jlaw_m1 ?_
  refine n_aload_n O dL_law_244 rfl ?_
  refine n_aload_n O dL_law_245 rfl ?_
  refine n_iload_n O dL_law_246 rfl ?_
  refine r_iconst O dL_law_247 ?_
  refine r_iadd O dL_law_248 ?_
  refine r_sld O hJ (by omega) (by omega) dL_law_249 ?_
  refine n_aload_n O dL_law_250 rfl ?_
  refine n_iload_n O dL_law_251 rfl ?_
  refine r_iconst O dL_law_252 ?_
  refine r_iadd O dL_law_253 ?_
  refine r_sld O hJ (by omega) (by omega) dL_law_254 ?_
  refine r_fV2i (o := 0) 85 11 O (by omega) (fun j hj => jlaw_2) (C_X6_member hI2 rfl tx ty td dr bg ss pa kn im kp ns nd ap la hh tt (c.1 0) (jR_v h) (jR_m h) _ (zB_toInt _) _ (zB_toInt _)) q_L_35 (by decide) (fs := _) rfl rfl rfl (by omega) (by decide) (Nat.le_of_ble_eq_true rfl) dL_law_255 (fun z2 w2 hz2 => ?_)
  obtain ⟨hz, hr⟩ := op_member (ap := ap) (la := la) (dr := dr) (bg := bg) (hh := hh) (tt := tt) h hz1 hz2
  subst hz
  refine r_same (tgt := 758) O dL_law_258 (by decide) ?_
  exact G_eqN (fun q hq => jlaw_m2 (by omega)) (k _ _ hr)
set_option maxHeartbeats 2000000 in
theorem jop_eat {K : zK} {X : zX} {ret : Option FieldType} {f b L : Nat} {sc : Nat → Int32} {i : Int} (O : zO K X cL_law RL ret 4 f) (hf : 6 ≤ f) (hN : kN K = 96) (hJ : jS K X b L sc) (i0 : 0 ≤ i) (i1 : i + 4 ≤ (L : Int)) {u1 u2 : zE} (hR : jRel (zpt K 0 85) (zpt K 85 11) u1 u2) (k : ∀ w1 w2 : zE, jRel (zpt K 0 85) (zpt K 85 11) w1 w2 → G K X 4 758 [(0, .ref b), (1, .ref (kad K 0)), (2, .ref (kad K 85)), (3, .int (iI i))] [] (jlaw w1 w2)) : G K X 4 263 [(0, .ref b), (1, .ref (kad K 0)), (2, .ref (kad K 85)), (3, .int (iI i))] [] (jlaw u1 u2) := by
  obtain ⟨c, tx, ty, td, dr, bg, ss, pa, kn, im, kp, ns, nd, ap, la, hh, tt, h, rfl, rfl⟩ := hR
  have hI1 : zInj (zpt K 0 85) := zpt_inj (zO_I O) (by omega)
  have hI2 : zInj (zpt K 85 11) := zpt_inj (zO_I O) (by omega)
  refine n_aload_n O dL_law_263 rfl ?_
  refine n_aload_n O dL_law_264 rfl ?_
  refine n_iload_n O dL_law_265 rfl ?_
  refine r_iconst O dL_law_266 ?_
  refine r_iadd O dL_law_267 ?_
  refine r_sld O hJ (by omega) (by omega) dL_law_268 ?_
  refine r_fV1i (o := 0) 0 85 O (by omega) (fun j hj => jlaw_1 hj) (C_X5_eat hI1 rfl c h.1 _ (zB_toInt _)) q_L_36 (by decide) (fs := _) rfl rfl rfl (by omega) (by decide) (Nat.le_of_ble_eq_true rfl) dL_law_269 (fun z1 w1 hz1 => ?_)
  refine G_ct jlaw_m1 ?_
  refine n_aload_n O dL_law_272 rfl ?_
  refine n_aload_n O dL_law_273 rfl ?_
  refine n_iload_n O dL_law_274 rfl ?_
  refine r_iconst O dL_law_275 ?_
  refine r_iadd O dL_law_276 ?_
  refine r_sld O hJ (by omega) (by omega) dL_law_277 ?_
  refine r_fV1i (o := 0) 85 11 O (by omega) (fun j hj => jlaw_2) (C_X6_eat hI2 rfl tx ty td dr bg ss pa kn im kp ns nd ap la hh tt (c.1 0) (jR_v h) (jR_m h) (jR_kn h) _ (zB_toInt _)) q_L_39 (by decide) (fs := _) rfl rfl rfl (by omega) (by decide) (Nat.le_of_ble_eq_true rfl) dL_law_278 (fun z2 w2 hz2 => ?_)
  obtain ⟨hz, hr⟩ := op_eat (ap := ap) (la := la) (dr := dr) (bg := bg) (hh := hh) (tt := tt) h hz1 hz2
  subst hz
  refine r_same (tgt := 758) O dL_law_281 (by decide) ?_
  exact G_eqN (fun q hq => jlaw_m2 (by omega)) (k _ _ hr)
set_option maxHeartbeats 2000000 in
theorem jop_salt {K : zK} {X : zX} {ret : Option FieldType} {f b L : Nat} {sc : Nat → Int32} {i : Int} (O : zO K X cL_law RL ret 4 f) (hf : 6 ≤ f) (hN : kN K = 96) (hJ : jS K X b L sc) (i0 : 0 ≤ i) (i1 : i + 4 ≤ (L : Int)) {u1 u2 : zE} (hR : jRel (zpt K 0 85) (zpt K 85 11) u1 u2) (k : ∀ w1 w2 : zE, jRel (zpt K 0 85) (zpt K 85 11) w1 w2 → G K X 4 758 [(0, .ref b), (1, .ref (kad K 0)), (2, .ref (kad K 85)), (3, .int (iI i))] [] (jlaw w1 w2)) : G K X 4 286 [(0, .ref b), (1, .ref (kad K 0)), (2, .ref (kad K 85)), (3, .int (iI i))] [] (jlaw u1 u2) := by
  obtain ⟨c, tx, ty, td, dr, bg, ss, pa, kn, im, kp, ns, nd, ap, la, hh, tt, h, rfl, rfl⟩ := hR
  have hI1 : zInj (zpt K 0 85) := zpt_inj (zO_I O) (by omega)
  have hI2 : zInj (zpt K 85 11) := zpt_inj (zO_I O) (by omega)
  refine n_aload_n O dL_law_286 rfl ?_
  refine r_fV0i (o := 0) 0 85 O (by omega) (fun j hj => jlaw_1 hj) (C_X5_salt hI1 rfl c h.1 ) q_L_40 (by decide) (fs := _) rfl rfl rfl (by omega) (by decide) (Nat.le_of_ble_eq_true rfl) dL_law_287 (fun z1 w1 hz1 => ?_)
  refine G_ct jlaw_m1 ?_
  refine n_aload_n O dL_law_290 rfl ?_
  refine r_fV0i (o := 0) 85 11 O (by omega) (fun j hj => jlaw_2) (C_X6_salt hI2 rfl tx ty td dr bg ss pa kn im kp ns nd ap la hh tt (c.1 0) (jR_v h) (jR_m h) (jR_kn h) ) q_L_43 (by decide) (fs := _) rfl rfl rfl (by omega) (by decide) (Nat.le_of_ble_eq_true rfl) dL_law_291 (fun z2 w2 hz2 => ?_)
  obtain ⟨hz, hr⟩ := op_salt (ap := ap) (la := la) (dr := dr) (bg := bg) (hh := hh) (tt := tt) h hz1 hz2
  subst hz
  refine r_same (tgt := 758) O dL_law_294 (by decide) ?_
  exact G_eqN (fun q hq => jlaw_m2 (by omega)) (k _ _ hr)
set_option maxHeartbeats 2000000 in
theorem jop_cook {K : zK} {X : zX} {ret : Option FieldType} {f b L : Nat} {sc : Nat → Int32} {i : Int} (O : zO K X cL_law RL ret 4 f) (hf : 6 ≤ f) (hN : kN K = 96) (hJ : jS K X b L sc) (i0 : 0 ≤ i) (i1 : i + 4 ≤ (L : Int)) {u1 u2 : zE} (hR : jRel (zpt K 0 85) (zpt K 85 11) u1 u2) (k : ∀ w1 w2 : zE, jRel (zpt K 0 85) (zpt K 85 11) w1 w2 → G K X 4 758 [(0, .ref b), (1, .ref (kad K 0)), (2, .ref (kad K 85)), (3, .int (iI i))] [] (jlaw w1 w2)) : G K X 4 299 [(0, .ref b), (1, .ref (kad K 0)), (2, .ref (kad K 85)), (3, .int (iI i))] [] (jlaw u1 u2) := by
  obtain ⟨c, tx, ty, td, dr, bg, ss, pa, kn, im, kp, ns, nd, ap, la, hh, tt, h, rfl, rfl⟩ := hR
  have hI1 : zInj (zpt K 0 85) := zpt_inj (zO_I O) (by omega)
  have hI2 : zInj (zpt K 85 11) := zpt_inj (zO_I O) (by omega)
  refine n_aload_n O dL_law_299 rfl ?_
  refine n_aload_n O dL_law_300 rfl ?_
  refine n_iload_n O dL_law_301 rfl ?_
  refine r_iconst O dL_law_302 ?_
  refine r_iadd O dL_law_303 ?_
  refine r_sld O hJ (by omega) (by omega) dL_law_304 ?_
  refine r_fV1i (o := 0) 0 85 O (by omega) (fun j hj => jlaw_1 hj) (C_X5_cook hI1 rfl c h.1 _ (zB_toInt _)) q_L_44 (by decide) (fs := _) rfl rfl rfl (by omega) (by decide) (Nat.le_of_ble_eq_true rfl) dL_law_305 (fun z1 w1 hz1 => ?_)
  refine G_ct jlaw_m1 ?_
  refine n_aload_n O dL_law_308 rfl ?_
  refine n_aload_n O dL_law_309 rfl ?_
  refine n_iload_n O dL_law_310 rfl ?_
  refine r_iconst O dL_law_311 ?_
  refine r_iadd O dL_law_312 ?_
  refine r_sld O hJ (by omega) (by omega) dL_law_313 ?_
  refine r_fV1i (o := 0) 85 11 O (by omega) (fun j hj => jlaw_2) (C_X6_cook hI2 rfl tx ty td dr bg ss pa kn im kp ns nd ap la hh tt (c.1 0) (jR_v h) (jR_m h) (jR_kn h) _ (zB_toInt _)) q_L_47 (by decide) (fs := _) rfl rfl rfl (by omega) (by decide) (Nat.le_of_ble_eq_true rfl) dL_law_314 (fun z2 w2 hz2 => ?_)
  obtain ⟨hz, hr⟩ := op_cook (ap := ap) (la := la) (dr := dr) (bg := bg) (hh := hh) (tt := tt) h hz1 hz2
  subst hz
  refine r_same (tgt := 758) O dL_law_317 (by decide) ?_
  exact G_eqN (fun q hq => jlaw_m2 (by omega)) (k _ _ hr)
set_option maxHeartbeats 2000000 in
theorem jop_cool {K : zK} {X : zX} {ret : Option FieldType} {f b L : Nat} {sc : Nat → Int32} {i : Int} (O : zO K X cL_law RL ret 4 f) (hf : 6 ≤ f) (hN : kN K = 96) (hJ : jS K X b L sc) (i0 : 0 ≤ i) (i1 : i + 4 ≤ (L : Int)) {u1 u2 : zE} (hR : jRel (zpt K 0 85) (zpt K 85 11) u1 u2) (k : ∀ w1 w2 : zE, jRel (zpt K 0 85) (zpt K 85 11) w1 w2 → G K X 4 758 [(0, .ref b), (1, .ref (kad K 0)), (2, .ref (kad K 85)), (3, .int (iI i))] [] (jlaw w1 w2)) : G K X 4 322 [(0, .ref b), (1, .ref (kad K 0)), (2, .ref (kad K 85)), (3, .int (iI i))] [] (jlaw u1 u2) := by
  obtain ⟨c, tx, ty, td, dr, bg, ss, pa, kn, im, kp, ns, nd, ap, la, hh, tt, h, rfl, rfl⟩ := hR
  have hI1 : zInj (zpt K 0 85) := zpt_inj (zO_I O) (by omega)
  have hI2 : zInj (zpt K 85 11) := zpt_inj (zO_I O) (by omega)
  refine n_aload_n O dL_law_322 rfl ?_
  refine r_fV0i (o := 0) 0 85 O (by omega) (fun j hj => jlaw_1 hj) (C_X5_cool hI1 rfl c h.1 ) q_L_48 (by decide) (fs := _) rfl rfl rfl (by omega) (by decide) (Nat.le_of_ble_eq_true rfl) dL_law_323 (fun z1 w1 hz1 => ?_)
  refine G_ct jlaw_m1 ?_
  refine n_aload_n O dL_law_326 rfl ?_
  refine r_fV0i (o := 0) 85 11 O (by omega) (fun j hj => jlaw_2) (C_X6_cool hI2 rfl tx ty td dr bg ss pa kn im kp ns nd ap la hh tt (c.1 0) (jR_v h) (jR_m h) (jR_kn h) ) q_L_51 (by decide) (fs := _) rfl rfl rfl (by omega) (by decide) (Nat.le_of_ble_eq_true rfl) dL_law_327 (fun z2 w2 hz2 => ?_)
  obtain ⟨hz, hr⟩ := op_cool (ap := ap) (la := la) (dr := dr) (bg := bg) (hh := hh) (tt := tt) h hz1 hz2
  subst hz
  refine r_same (tgt := 758) O dL_law_330 (by decide) ?_
  exact G_eqN (fun q hq => jlaw_m2 (by omega)) (k _ _ hr)
set_option maxHeartbeats 2000000 in
theorem jop_trade {K : zK} {X : zX} {ret : Option FieldType} {f b L : Nat} {sc : Nat → Int32} {i : Int} (O : zO K X cL_law RL ret 4 f) (hf : 6 ≤ f) (hN : kN K = 96) (hJ : jS K X b L sc) (i0 : 0 ≤ i) (i1 : i + 4 ≤ (L : Int)) {u1 u2 : zE} (hR : jRel (zpt K 0 85) (zpt K 85 11) u1 u2) (k : ∀ w1 w2 : zE, jRel (zpt K 0 85) (zpt K 85 11) w1 w2 → G K X 4 758 [(0, .ref b), (1, .ref (kad K 0)), (2, .ref (kad K 85)), (3, .int (iI i))] [] (jlaw w1 w2)) : G K X 4 335 [(0, .ref b), (1, .ref (kad K 0)), (2, .ref (kad K 85)), (3, .int (iI i))] [] (jlaw u1 u2) := by
  obtain ⟨c, tx, ty, td, dr, bg, ss, pa, kn, im, kp, ns, nd, ap, la, hh, tt, h, rfl, rfl⟩ := hR
  have hI1 : zInj (zpt K 0 85) := zpt_inj (zO_I O) (by omega)
  have hI2 : zInj (zpt K 85 11) := zpt_inj (zO_I O) (by omega)
  refine n_aload_n O dL_law_335 rfl ?_
  refine n_aload_n O dL_law_336 rfl ?_
  refine n_iload_n O dL_law_337 rfl ?_
  refine r_iconst O dL_law_338 ?_
  refine r_iadd O dL_law_339 ?_
  refine r_sld O hJ (by omega) (by omega) dL_law_340 ?_
  refine n_aload_n O dL_law_341 rfl ?_
  refine n_iload_n O dL_law_342 rfl ?_
  refine r_iconst O dL_law_343 ?_
  refine r_iadd O dL_law_344 ?_
  refine r_sld O hJ (by omega) (by omega) dL_law_345 ?_
  refine r_fV2i (o := 0) 0 85 O (by omega) (fun j hj => jlaw_1 hj) (C_X5_trade hI1 rfl c h.1 _ (zB_toInt _) _ (zB_toInt _)) q_L_52 (by decide) (fs := _) rfl rfl rfl (by omega) (by decide) (Nat.le_of_ble_eq_true rfl) dL_law_346 (fun z1 w1 hz1 => ?_)
  refine G_ct jlaw_m1 ?_
  refine n_aload_n O dL_law_349 rfl ?_
  refine n_aload_n O dL_law_350 rfl ?_
  refine n_iload_n O dL_law_351 rfl ?_
  refine r_iconst O dL_law_352 ?_
  refine r_iadd O dL_law_353 ?_
  refine r_sld O hJ (by omega) (by omega) dL_law_354 ?_
  refine n_aload_n O dL_law_355 rfl ?_
  refine n_iload_n O dL_law_356 rfl ?_
  refine r_iconst O dL_law_357 ?_
  refine r_iadd O dL_law_358 ?_
  refine r_sld O hJ (by omega) (by omega) dL_law_359 ?_
  refine r_fV2i (o := 0) 85 11 O (by omega) (fun j hj => jlaw_2) (C_X6_trade hI2 rfl tx ty td dr bg ss pa kn im kp ns nd ap la hh tt (c.1 0) (jR_v h) (jR_m h) (jR_kn h) _ (zB_toInt _) _ (zB_toInt _)) q_L_55 (by decide) (fs := _) rfl rfl rfl (by omega) (by decide) (Nat.le_of_ble_eq_true rfl) dL_law_360 (fun z2 w2 hz2 => ?_)
  obtain ⟨hz, hr⟩ := op_trade (ap := ap) (la := la) (dr := dr) (bg := bg) (hh := hh) (tt := tt) h hz1 hz2
  subst hz
  refine r_same (tgt := 758) O dL_law_363 (by decide) ?_
  exact G_eqN (fun q hq => jlaw_m2 (by omega)) (k _ _ hr)
set_option maxHeartbeats 2000000 in
theorem jop_fast {K : zK} {X : zX} {ret : Option FieldType} {f b L : Nat} {sc : Nat → Int32} {i : Int} (O : zO K X cL_law RL ret 4 f) (hf : 6 ≤ f) (hN : kN K = 96) (hJ : jS K X b L sc) (i0 : 0 ≤ i) (i1 : i + 4 ≤ (L : Int)) {u1 u2 : zE} (hR : jRel (zpt K 0 85) (zpt K 85 11) u1 u2) (k : ∀ w1 w2 : zE, jRel (zpt K 0 85) (zpt K 85 11) w1 w2 → G K X 4 758 [(0, .ref b), (1, .ref (kad K 0)), (2, .ref (kad K 85)), (3, .int (iI i))] [] (jlaw w1 w2)) : G K X 4 368 [(0, .ref b), (1, .ref (kad K 0)), (2, .ref (kad K 85)), (3, .int (iI i))] [] (jlaw u1 u2) := by
  obtain ⟨c, tx, ty, td, dr, bg, ss, pa, kn, im, kp, ns, nd, ap, la, hh, tt, h, rfl, rfl⟩ := hR
  have hI1 : zInj (zpt K 0 85) := zpt_inj (zO_I O) (by omega)
  have hI2 : zInj (zpt K 85 11) := zpt_inj (zO_I O) (by omega)
  refine n_aload_n O dL_law_368 rfl ?_
  refine r_fV0i (o := 0) 0 85 O (by omega) (fun j hj => jlaw_1 hj) (C_X5_fast hI1 rfl c h.1 ) q_L_56 (by decide) (fs := _) rfl rfl rfl (by omega) (by decide) (Nat.le_of_ble_eq_true rfl) dL_law_369 (fun z1 w1 hz1 => ?_)
  refine G_ct jlaw_m1 ?_
  refine n_aload_n O dL_law_372 rfl ?_
  refine r_fV0i (o := 0) 85 11 O (by omega) (fun j hj => jlaw_2) (C_X6_fast hI2 rfl tx ty td dr bg ss pa kn im kp ns nd ap la hh tt (c.1 0) (jR_v h) (jR_m h) (jR_kn h) ) q_L_59 (by decide) (fs := _) rfl rfl rfl (by omega) (by decide) (Nat.le_of_ble_eq_true rfl) dL_law_373 (fun z2 w2 hz2 => ?_)
  obtain ⟨hz, hr⟩ := op_fast (ap := ap) (la := la) (dr := dr) (bg := bg) (hh := hh) (tt := tt) h hz1 hz2
  subst hz
  refine r_same (tgt := 758) O dL_law_376 (by decide) ?_
  exact G_eqN (fun q hq => jlaw_m2 (by omega)) (k _ _ hr)
set_option maxHeartbeats 2000000 in
theorem jop_undo {K : zK} {X : zX} {ret : Option FieldType} {f b L : Nat} {sc : Nat → Int32} {i : Int} (O : zO K X cL_law RL ret 4 f) (hf : 6 ≤ f) (hN : kN K = 96) (hJ : jS K X b L sc) (i0 : 0 ≤ i) (i1 : i + 4 ≤ (L : Int)) {u1 u2 : zE} (hR : jRel (zpt K 0 85) (zpt K 85 11) u1 u2) (k : ∀ w1 w2 : zE, jRel (zpt K 0 85) (zpt K 85 11) w1 w2 → G K X 4 758 [(0, .ref b), (1, .ref (kad K 0)), (2, .ref (kad K 85)), (3, .int (iI i))] [] (jlaw w1 w2)) : G K X 4 381 [(0, .ref b), (1, .ref (kad K 0)), (2, .ref (kad K 85)), (3, .int (iI i))] [] (jlaw u1 u2) := by
  obtain ⟨c, tx, ty, td, dr, bg, ss, pa, kn, im, kp, ns, nd, ap, la, hh, tt, h, rfl, rfl⟩ := hR
  have hI1 : zInj (zpt K 0 85) := zpt_inj (zO_I O) (by omega)
  have hI2 : zInj (zpt K 85 11) := zpt_inj (zO_I O) (by omega)
  refine n_aload_n O dL_law_381 rfl ?_
  refine r_fV0i (o := 0) 0 85 O (by omega) (fun j hj => jlaw_1 hj) (C_X5_undo hI1 rfl c h.1 ) q_L_60 (by decide) (fs := _) rfl rfl rfl (by omega) (by decide) (Nat.le_of_ble_eq_true rfl) dL_law_382 (fun z1 w1 hz1 => ?_)
  refine G_ct jlaw_m1 ?_
  refine n_aload_n O dL_law_385 rfl ?_
  refine r_fV0i (o := 0) 85 11 O (by omega) (fun j hj => jlaw_2) (C_X6_undo hI2 rfl tx ty td dr bg ss pa kn im kp ns nd ap la hh tt (jR_kn h) ) q_L_63 (by decide) (fs := _) rfl rfl rfl (by omega) (by decide) (Nat.le_of_ble_eq_true rfl) dL_law_386 (fun z2 w2 hz2 => ?_)
  obtain ⟨hz, hr⟩ := op_undo (ap := ap) (la := la) (dr := dr) (bg := bg) (hh := hh) (tt := tt) h hz1 hz2
  subst hz
  refine r_same (tgt := 758) O dL_law_389 (by decide) ?_
  exact G_eqN (fun q hq => jlaw_m2 (by omega)) (k _ _ hr)
set_option maxHeartbeats 2000000 in
theorem jop_passes {K : zK} {X : zX} {ret : Option FieldType} {f b L : Nat} {sc : Nat → Int32} {i : Int} (O : zO K X cL_law RL ret 4 f) (hf : 6 ≤ f) (hN : kN K = 96) (hJ : jS K X b L sc) (i0 : 0 ≤ i) (i1 : i + 4 ≤ (L : Int)) {u1 u2 : zE} (hR : jRel (zpt K 0 85) (zpt K 85 11) u1 u2) (k : ∀ w1 w2 : zE, jRel (zpt K 0 85) (zpt K 85 11) w1 w2 → G K X 4 758 [(0, .ref b), (1, .ref (kad K 0)), (2, .ref (kad K 85)), (3, .int (iI i))] [] (jlaw w1 w2)) : G K X 4 394 [(0, .ref b), (1, .ref (kad K 0)), (2, .ref (kad K 85)), (3, .int (iI i))] [] (jlaw u1 u2) := by
  obtain ⟨c, tx, ty, td, dr, bg, ss, pa, kn, im, kp, ns, nd, ap, la, hh, tt, h, rfl, rfl⟩ := hR
  have hI1 : zInj (zpt K 0 85) := zpt_inj (zO_I O) (by omega)
  have hI2 : zInj (zpt K 85 11) := zpt_inj (zO_I O) (by omega)
  refine n_aload_n O dL_law_394 rfl ?_
  refine r_fV0i (o := 0) 0 85 O (by omega) (fun j hj => jlaw_1 hj) (C_X5_passes hI1 rfl c h.1 ) q_L_64 (by decide) (fs := _) rfl rfl rfl (by omega) (by decide) (Nat.le_of_ble_eq_true rfl) dL_law_395 (fun z1 w1 hz1 => ?_)
  refine G_ct jlaw_m1 ?_
  refine n_aload_n O dL_law_398 rfl ?_
  refine r_fV0i (o := 0) 85 11 O (by omega) (fun j hj => jlaw_2) (C_X6_passes hI2 rfl tx ty td dr bg ss pa kn im kp ns nd ap la hh tt (c.1 0) (jR_v h) (jR_m h) ) q_L_67 (by decide) (fs := _) rfl rfl rfl (by omega) (by decide) (Nat.le_of_ble_eq_true rfl) dL_law_399 (fun z2 w2 hz2 => ?_)
  obtain ⟨hz, hr⟩ := op_passes (ap := ap) (la := la) (dr := dr) (bg := bg) (hh := hh) (tt := tt) h hz1 hz2
  subst hz
  refine r_same (tgt := 758) O dL_law_402 (by decide) ?_
  exact G_eqN (fun q hq => jlaw_m2 (by omega)) (k _ _ hr)
set_option maxHeartbeats 2000000 in
theorem jop_left {K : zK} {X : zX} {ret : Option FieldType} {f b L : Nat} {sc : Nat → Int32} {i : Int} (O : zO K X cL_law RL ret 4 f) (hf : 6 ≤ f) (hN : kN K = 96) (hJ : jS K X b L sc) (i0 : 0 ≤ i) (i1 : i + 4 ≤ (L : Int)) {u1 u2 : zE} (hR : jRel (zpt K 0 85) (zpt K 85 11) u1 u2) (k : ∀ w1 w2 : zE, jRel (zpt K 0 85) (zpt K 85 11) w1 w2 → G K X 4 758 [(0, .ref b), (1, .ref (kad K 0)), (2, .ref (kad K 85)), (3, .int (iI i))] [] (jlaw w1 w2)) : G K X 4 407 [(0, .ref b), (1, .ref (kad K 0)), (2, .ref (kad K 85)), (3, .int (iI i))] [] (jlaw u1 u2) := by
  obtain ⟨c, tx, ty, td, dr, bg, ss, pa, kn, im, kp, ns, nd, ap, la, hh, tt, h, rfl, rfl⟩ := hR
  have hI1 : zInj (zpt K 0 85) := zpt_inj (zO_I O) (by omega)
  have hI2 : zInj (zpt K 85 11) := zpt_inj (zO_I O) (by omega)
  refine n_aload_n O dL_law_407 rfl ?_
  refine n_aload_n O dL_law_408 rfl ?_
  refine n_iload_n O dL_law_409 rfl ?_
  refine r_iconst O dL_law_410 ?_
  refine r_iadd O dL_law_411 ?_
  refine r_sld O hJ (by omega) (by omega) dL_law_412 ?_
  refine r_fV1i (o := 0) 0 85 O (by omega) (fun j hj => jlaw_1 hj) (C_X5_left hI1 rfl c h.1 _ (zB_toInt _)) q_L_68 (by decide) (fs := _) rfl rfl rfl (by omega) (by decide) (Nat.le_of_ble_eq_true rfl) dL_law_413 (fun z1 w1 hz1 => ?_)
  refine G_ct jlaw_m1 ?_
  refine n_aload_n O dL_law_416 rfl ?_
  refine n_aload_n O dL_law_417 rfl ?_
  refine n_iload_n O dL_law_418 rfl ?_
  refine r_iconst O dL_law_419 ?_
  refine r_iadd O dL_law_420 ?_
  refine r_sld O hJ (by omega) (by omega) dL_law_421 ?_
  refine r_fV1i (o := 0) 85 11 O (by omega) (fun j hj => jlaw_2) (C_X6_left hI2 rfl tx ty td dr bg ss pa kn im kp ns nd ap la hh tt (c.1 0) (jR_v h) (jR_m h) _ (zB_toInt _)) q_L_71 (by decide) (fs := _) rfl rfl rfl (by omega) (by decide) (Nat.le_of_ble_eq_true rfl) dL_law_422 (fun z2 w2 hz2 => ?_)
  obtain ⟨hz, hr⟩ := op_left (ap := ap) (la := la) (dr := dr) (bg := bg) (hh := hh) (tt := tt) h hz1 hz2
  subst hz
  refine r_same (tgt := 758) O dL_law_425 (by decide) ?_
  exact G_eqN (fun q hq => jlaw_m2 (by omega)) (k _ _ hr)
set_option maxHeartbeats 2000000 in
theorem jop_scraper {K : zK} {X : zX} {ret : Option FieldType} {f b L : Nat} {sc : Nat → Int32} {i : Int} (O : zO K X cL_law RL ret 4 f) (hf : 6 ≤ f) (hN : kN K = 96) (hJ : jS K X b L sc) (i0 : 0 ≤ i) (i1 : i + 4 ≤ (L : Int)) {u1 u2 : zE} (hR : jRel (zpt K 0 85) (zpt K 85 11) u1 u2) (k : ∀ w1 w2 : zE, jRel (zpt K 0 85) (zpt K 85 11) w1 w2 → G K X 4 758 [(0, .ref b), (1, .ref (kad K 0)), (2, .ref (kad K 85)), (3, .int (iI i))] [] (jlaw w1 w2)) : G K X 4 430 [(0, .ref b), (1, .ref (kad K 0)), (2, .ref (kad K 85)), (3, .int (iI i))] [] (jlaw u1 u2) := by
  obtain ⟨c, tx, ty, td, dr, bg, ss, pa, kn, im, kp, ns, nd, ap, la, hh, tt, h, rfl, rfl⟩ := hR
  have hI1 : zInj (zpt K 0 85) := zpt_inj (zO_I O) (by omega)
  have hI2 : zInj (zpt K 85 11) := zpt_inj (zO_I O) (by omega)
  refine n_aload_n O dL_law_430 rfl ?_
  refine r_fV0i (o := 0) 0 85 O (by omega) (fun j hj => jlaw_1 hj) (C_X5_scraper hI1 rfl c h.1 ) q_L_72 (by decide) (fs := _) rfl rfl rfl (by omega) (by decide) (Nat.le_of_ble_eq_true rfl) dL_law_431 (fun z1 w1 hz1 => ?_)
  refine G_ct jlaw_m1 ?_
  refine n_aload_n O dL_law_434 rfl ?_
  refine r_fV0i (o := 0) 85 11 O (by omega) (fun j hj => jlaw_2) (C_X6_scraper hI2 rfl tx ty td dr bg ss pa kn im kp ns nd ap la hh tt (c.1 0) (jR_v h) (jR_m h) ) q_L_75 (by decide) (fs := _) rfl rfl rfl (by omega) (by decide) (Nat.le_of_ble_eq_true rfl) dL_law_435 (fun z2 w2 hz2 => ?_)
  obtain ⟨hz, hr⟩ := op_scraper (ap := ap) (la := la) (dr := dr) (bg := bg) (hh := hh) (tt := tt) h hz1 hz2
  subst hz
  refine r_same (tgt := 758) O dL_law_438 (by decide) ?_
  exact G_eqN (fun q hq => jlaw_m2 (by omega)) (k _ _ hr)
set_option maxHeartbeats 2000000 in
theorem jop_spoil {K : zK} {X : zX} {ret : Option FieldType} {f b L : Nat} {sc : Nat → Int32} {i : Int} (O : zO K X cL_law RL ret 4 f) (hf : 6 ≤ f) (hN : kN K = 96) (hJ : jS K X b L sc) (i0 : 0 ≤ i) (i1 : i + 4 ≤ (L : Int)) {u1 u2 : zE} (hR : jRel (zpt K 0 85) (zpt K 85 11) u1 u2) (k : ∀ w1 w2 : zE, jRel (zpt K 0 85) (zpt K 85 11) w1 w2 → G K X 4 758 [(0, .ref b), (1, .ref (kad K 0)), (2, .ref (kad K 85)), (3, .int (iI i))] [] (jlaw w1 w2)) : G K X 4 443 [(0, .ref b), (1, .ref (kad K 0)), (2, .ref (kad K 85)), (3, .int (iI i))] [] (jlaw u1 u2) := by
  obtain ⟨c, tx, ty, td, dr, bg, ss, pa, kn, im, kp, ns, nd, ap, la, hh, tt, h, rfl, rfl⟩ := hR
  have hI1 : zInj (zpt K 0 85) := zpt_inj (zO_I O) (by omega)
  have hI2 : zInj (zpt K 85 11) := zpt_inj (zO_I O) (by omega)
  refine n_aload_n O dL_law_443 rfl ?_
  refine r_fV0i (o := 0) 0 85 O (by omega) (fun j hj => jlaw_1 hj) (C_X5_spoil hI1 rfl c h.1 ) q_L_76 (by decide) (fs := _) rfl rfl rfl (by omega) (by decide) (Nat.le_of_ble_eq_true rfl) dL_law_444 (fun z1 w1 hz1 => ?_)
  refine G_ct jlaw_m1 ?_
  refine n_aload_n O dL_law_447 rfl ?_
  refine r_fV0i (o := 0) 85 11 O (by omega) (fun j hj => jlaw_2) (C_X6_spoil hI2 rfl tx ty td dr bg ss pa kn im kp ns nd ap la hh tt (c.1 0) (jR_v h) (jR_m h) ) q_L_79 (by decide) (fs := _) rfl rfl rfl (by omega) (by decide) (Nat.le_of_ble_eq_true rfl) dL_law_448 (fun z2 w2 hz2 => ?_)
  obtain ⟨hz, hr⟩ := op_spoil (ap := ap) (la := la) (dr := dr) (bg := bg) (hh := hh) (tt := tt) h hz1 hz2
  subst hz
  refine r_same (tgt := 758) O dL_law_451 (by decide) ?_
  exact G_eqN (fun q hq => jlaw_m2 (by omega)) (k _ _ hr)
set_option maxHeartbeats 2000000 in
theorem jop_waits {K : zK} {X : zX} {ret : Option FieldType} {f b L : Nat} {sc : Nat → Int32} {i : Int} (O : zO K X cL_law RL ret 4 f) (hf : 6 ≤ f) (hN : kN K = 96) (hJ : jS K X b L sc) (i0 : 0 ≤ i) (i1 : i + 4 ≤ (L : Int)) {u1 u2 : zE} (hR : jRel (zpt K 0 85) (zpt K 85 11) u1 u2) (k : ∀ w1 w2 : zE, jRel (zpt K 0 85) (zpt K 85 11) w1 w2 → G K X 4 758 [(0, .ref b), (1, .ref (kad K 0)), (2, .ref (kad K 85)), (3, .int (iI i))] [] (jlaw w1 w2)) : G K X 4 456 [(0, .ref b), (1, .ref (kad K 0)), (2, .ref (kad K 85)), (3, .int (iI i))] [] (jlaw u1 u2) := by
  obtain ⟨c, tx, ty, td, dr, bg, ss, pa, kn, im, kp, ns, nd, ap, la, hh, tt, h, rfl, rfl⟩ := hR
  have hI1 : zInj (zpt K 0 85) := zpt_inj (zO_I O) (by omega)
  have hI2 : zInj (zpt K 85 11) := zpt_inj (zO_I O) (by omega)
  refine n_aload_n O dL_law_456 rfl ?_
  refine r_fV0i (o := 0) 0 85 O (by omega) (fun j hj => jlaw_1 hj) (C_X5_waits hI1 rfl c h.1 ) q_L_80 (by decide) (fs := _) rfl rfl rfl (by omega) (by decide) (Nat.le_of_ble_eq_true rfl) dL_law_457 (fun z1 w1 hz1 => ?_)
  refine G_ct jlaw_m1 ?_
  refine n_aload_n O dL_law_460 rfl ?_
  refine r_fV0i (o := 0) 85 11 O (by omega) (fun j hj => jlaw_2) (C_X6_waits hI2 rfl tx ty td dr bg ss pa kn im kp ns nd ap la hh tt (c.1 0) (jR_v h) (jR_m h) ) q_L_83 (by decide) (fs := _) rfl rfl rfl (by omega) (by decide) (Nat.le_of_ble_eq_true rfl) dL_law_461 (fun z2 w2 hz2 => ?_)
  obtain ⟨hz, hr⟩ := op_waits (ap := ap) (la := la) (dr := dr) (bg := bg) (hh := hh) (tt := tt) h hz1 hz2
  subst hz
  refine r_same (tgt := 758) O dL_law_464 (by decide) ?_
  exact G_eqN (fun q hq => jlaw_m2 (by omega)) (k _ _ hr)
set_option maxHeartbeats 2000000 in
theorem jop_most {K : zK} {X : zX} {ret : Option FieldType} {f b L : Nat} {sc : Nat → Int32} {i : Int} (O : zO K X cL_law RL ret 4 f) (hf : 6 ≤ f) (hN : kN K = 96) (hJ : jS K X b L sc) (i0 : 0 ≤ i) (i1 : i + 4 ≤ (L : Int)) {u1 u2 : zE} (hR : jRel (zpt K 0 85) (zpt K 85 11) u1 u2) (k : ∀ w1 w2 : zE, jRel (zpt K 0 85) (zpt K 85 11) w1 w2 → G K X 4 758 [(0, .ref b), (1, .ref (kad K 0)), (2, .ref (kad K 85)), (3, .int (iI i))] [] (jlaw w1 w2)) : G K X 4 469 [(0, .ref b), (1, .ref (kad K 0)), (2, .ref (kad K 85)), (3, .int (iI i))] [] (jlaw u1 u2) := by
  obtain ⟨c, tx, ty, td, dr, bg, ss, pa, kn, im, kp, ns, nd, ap, la, hh, tt, h, rfl, rfl⟩ := hR
  have hI1 : zInj (zpt K 0 85) := zpt_inj (zO_I O) (by omega)
  have hI2 : zInj (zpt K 85 11) := zpt_inj (zO_I O) (by omega)
  refine n_aload_n O dL_law_469 rfl ?_
  refine r_fV0i (o := 0) 0 85 O (by omega) (fun j hj => jlaw_1 hj) (C_X5_most hI1 rfl c h.1 ) q_L_84 (by decide) (fs := _) rfl rfl rfl (by omega) (by decide) (Nat.le_of_ble_eq_true rfl) dL_law_470 (fun z1 w1 hz1 => ?_)
  refine G_ct jlaw_m1 ?_
  refine n_aload_n O dL_law_473 rfl ?_
  refine r_fV0i (o := 0) 85 11 O (by omega) (fun j hj => jlaw_2) (C_X6_most hI2 rfl tx ty td dr bg ss pa kn im kp ns nd ap la hh tt (c.1 0) (jR_v h) (jR_m h) ) q_L_87 (by decide) (fs := _) rfl rfl rfl (by omega) (by decide) (Nat.le_of_ble_eq_true rfl) dL_law_474 (fun z2 w2 hz2 => ?_)
  obtain ⟨hz, hr⟩ := op_most (ap := ap) (la := la) (dr := dr) (bg := bg) (hh := hh) (tt := tt) h hz1 hz2
  subst hz
  refine r_same (tgt := 758) O dL_law_477 (by decide) ?_
  exact G_eqN (fun q hq => jlaw_m2 (by omega)) (k _ _ hr)
set_option maxHeartbeats 2000000 in
theorem jop_fasts {K : zK} {X : zX} {ret : Option FieldType} {f b L : Nat} {sc : Nat → Int32} {i : Int} (O : zO K X cL_law RL ret 4 f) (hf : 6 ≤ f) (hN : kN K = 96) (hJ : jS K X b L sc) (i0 : 0 ≤ i) (i1 : i + 4 ≤ (L : Int)) {u1 u2 : zE} (hR : jRel (zpt K 0 85) (zpt K 85 11) u1 u2) (k : ∀ w1 w2 : zE, jRel (zpt K 0 85) (zpt K 85 11) w1 w2 → G K X 4 758 [(0, .ref b), (1, .ref (kad K 0)), (2, .ref (kad K 85)), (3, .int (iI i))] [] (jlaw w1 w2)) : G K X 4 482 [(0, .ref b), (1, .ref (kad K 0)), (2, .ref (kad K 85)), (3, .int (iI i))] [] (jlaw u1 u2) := by
  obtain ⟨c, tx, ty, td, dr, bg, ss, pa, kn, im, kp, ns, nd, ap, la, hh, tt, h, rfl, rfl⟩ := hR
  have hI1 : zInj (zpt K 0 85) := zpt_inj (zO_I O) (by omega)
  have hI2 : zInj (zpt K 85 11) := zpt_inj (zO_I O) (by omega)
  refine n_aload_n O dL_law_482 rfl ?_
  refine r_fV0i (o := 0) 0 85 O (by omega) (fun j hj => jlaw_1 hj) (C_X5_fasts hI1 rfl c h.1 ) q_L_88 (by decide) (fs := _) rfl rfl rfl (by omega) (by decide) (Nat.le_of_ble_eq_true rfl) dL_law_483 (fun z1 w1 hz1 => ?_)
  refine G_ct jlaw_m1 ?_
  refine n_aload_n O dL_law_486 rfl ?_
  refine r_fV0i (o := 0) 85 11 O (by omega) (fun j hj => jlaw_2) (C_X6_fasts hI2 rfl tx ty td dr bg ss pa kn im kp ns nd ap la hh tt (c.1 0) (jR_v h) (jR_m h) ) q_L_91 (by decide) (fs := _) rfl rfl rfl (by omega) (by decide) (Nat.le_of_ble_eq_true rfl) dL_law_487 (fun z2 w2 hz2 => ?_)
  obtain ⟨hz, hr⟩ := op_fasts (ap := ap) (la := la) (dr := dr) (bg := bg) (hh := hh) (tt := tt) h hz1 hz2
  subst hz
  refine r_same (tgt := 758) O dL_law_490 (by decide) ?_
  exact G_eqN (fun q hq => jlaw_m2 (by omega)) (k _ _ hr)
set_option maxHeartbeats 2000000 in
theorem jop_cabal {K : zK} {X : zX} {ret : Option FieldType} {f b L : Nat} {sc : Nat → Int32} {i : Int} (O : zO K X cL_law RL ret 4 f) (hf : 6 ≤ f) (hN : kN K = 96) (hJ : jS K X b L sc) (i0 : 0 ≤ i) (i1 : i + 4 ≤ (L : Int)) {u1 u2 : zE} (hR : jRel (zpt K 0 85) (zpt K 85 11) u1 u2) (k : ∀ w1 w2 : zE, jRel (zpt K 0 85) (zpt K 85 11) w1 w2 → G K X 4 758 [(0, .ref b), (1, .ref (kad K 0)), (2, .ref (kad K 85)), (3, .int (iI i))] [] (jlaw w1 w2)) : G K X 4 495 [(0, .ref b), (1, .ref (kad K 0)), (2, .ref (kad K 85)), (3, .int (iI i))] [] (jlaw u1 u2) := by
  obtain ⟨c, tx, ty, td, dr, bg, ss, pa, kn, im, kp, ns, nd, ap, la, hh, tt, h, rfl, rfl⟩ := hR
  have hI1 : zInj (zpt K 0 85) := zpt_inj (zO_I O) (by omega)
  have hI2 : zInj (zpt K 85 11) := zpt_inj (zO_I O) (by omega)
  refine n_aload_n O dL_law_495 rfl ?_
  refine n_aload_n O dL_law_496 rfl ?_
  refine n_iload_n O dL_law_497 rfl ?_
  refine r_iconst O dL_law_498 ?_
  refine r_iadd O dL_law_499 ?_
  refine r_sld O hJ (by omega) (by omega) dL_law_500 ?_
  refine r_fV1i (o := 0) 0 85 O (by omega) (fun j hj => jlaw_1 hj) (C_X5_cabal hI1 rfl c h.1 _ (zB_toInt _)) q_L_92 (by decide) (fs := _) rfl rfl rfl (by omega) (by decide) (Nat.le_of_ble_eq_true rfl) dL_law_501 (fun z1 w1 hz1 => ?_)
  refine G_ct jlaw_m1 ?_
  refine n_aload_n O dL_law_504 rfl ?_
  refine n_aload_n O dL_law_505 rfl ?_
  refine n_iload_n O dL_law_506 rfl ?_
  refine r_iconst O dL_law_507 ?_
  refine r_iadd O dL_law_508 ?_
  refine r_sld O hJ (by omega) (by omega) dL_law_509 ?_
  refine r_fV1i (o := 0) 85 11 O (by omega) (fun j hj => jlaw_2) (C_X6_cabal hI2 rfl tx ty td dr bg ss pa kn im kp ns nd ap la hh tt (c.1 0) (jR_v h) (jR_m h) _ (zB_toInt _)) q_L_95 (by decide) (fs := _) rfl rfl rfl (by omega) (by decide) (Nat.le_of_ble_eq_true rfl) dL_law_510 (fun z2 w2 hz2 => ?_)
  obtain ⟨hz, hr⟩ := op_cabal (ap := ap) (la := la) (dr := dr) (bg := bg) (hh := hh) (tt := tt) h hz1 hz2
  subst hz
  refine r_same (tgt := 758) O dL_law_513 (by decide) ?_
  exact G_eqN (fun q hq => jlaw_m2 (by omega)) (k _ _ hr)
set_option maxHeartbeats 2000000 in
theorem jop_trades {K : zK} {X : zX} {ret : Option FieldType} {f b L : Nat} {sc : Nat → Int32} {i : Int} (O : zO K X cL_law RL ret 4 f) (hf : 6 ≤ f) (hN : kN K = 96) (hJ : jS K X b L sc) (i0 : 0 ≤ i) (i1 : i + 4 ≤ (L : Int)) {u1 u2 : zE} (hR : jRel (zpt K 0 85) (zpt K 85 11) u1 u2) (k : ∀ w1 w2 : zE, jRel (zpt K 0 85) (zpt K 85 11) w1 w2 → G K X 4 758 [(0, .ref b), (1, .ref (kad K 0)), (2, .ref (kad K 85)), (3, .int (iI i))] [] (jlaw w1 w2)) : G K X 4 518 [(0, .ref b), (1, .ref (kad K 0)), (2, .ref (kad K 85)), (3, .int (iI i))] [] (jlaw u1 u2) := by
  obtain ⟨c, tx, ty, td, dr, bg, ss, pa, kn, im, kp, ns, nd, ap, la, hh, tt, h, rfl, rfl⟩ := hR
  have hI1 : zInj (zpt K 0 85) := zpt_inj (zO_I O) (by omega)
  have hI2 : zInj (zpt K 85 11) := zpt_inj (zO_I O) (by omega)
  refine n_aload_n O dL_law_518 rfl ?_
  refine r_fV0i (o := 0) 0 85 O (by omega) (fun j hj => jlaw_1 hj) (C_X5_trades hI1 rfl c h.1 ) q_L_96 (by decide) (fs := _) rfl rfl rfl (by omega) (by decide) (Nat.le_of_ble_eq_true rfl) dL_law_519 (fun z1 w1 hz1 => ?_)
  refine G_ct jlaw_m1 ?_
  refine n_aload_n O dL_law_522 rfl ?_
  refine r_fV0i (o := 0) 85 11 O (by omega) (fun j hj => jlaw_2) (C_X6_trades hI2 rfl tx ty td dr bg ss pa kn im kp ns nd ap la hh tt (c.1 0) (jR_v h) (jR_m h) ) q_L_99 (by decide) (fs := _) rfl rfl rfl (by omega) (by decide) (Nat.le_of_ble_eq_true rfl) dL_law_523 (fun z2 w2 hz2 => ?_)
  obtain ⟨hz, hr⟩ := op_trades (ap := ap) (la := la) (dr := dr) (bg := bg) (hh := hh) (tt := tt) h hz1 hz2
  subst hz
  refine r_same (tgt := 758) O dL_law_526 (by decide) ?_
  exact G_eqN (fun q hq => jlaw_m2 (by omega)) (k _ _ hr)
set_option maxHeartbeats 2000000 in
theorem jop_power {K : zK} {X : zX} {ret : Option FieldType} {f b L : Nat} {sc : Nat → Int32} {i : Int} (O : zO K X cL_law RL ret 4 f) (hf : 6 ≤ f) (hN : kN K = 96) (hJ : jS K X b L sc) (i0 : 0 ≤ i) (i1 : i + 4 ≤ (L : Int)) {u1 u2 : zE} (hR : jRel (zpt K 0 85) (zpt K 85 11) u1 u2) (k : ∀ w1 w2 : zE, jRel (zpt K 0 85) (zpt K 85 11) w1 w2 → G K X 4 758 [(0, .ref b), (1, .ref (kad K 0)), (2, .ref (kad K 85)), (3, .int (iI i))] [] (jlaw w1 w2)) : G K X 4 531 [(0, .ref b), (1, .ref (kad K 0)), (2, .ref (kad K 85)), (3, .int (iI i))] [] (jlaw u1 u2) := by
  obtain ⟨c, tx, ty, td, dr, bg, ss, pa, kn, im, kp, ns, nd, ap, la, hh, tt, h, rfl, rfl⟩ := hR
  have hI1 : zInj (zpt K 0 85) := zpt_inj (zO_I O) (by omega)
  have hI2 : zInj (zpt K 85 11) := zpt_inj (zO_I O) (by omega)
  refine n_aload_n O dL_law_531 rfl ?_
  refine n_aload_n O dL_law_532 rfl ?_
  refine n_iload_n O dL_law_533 rfl ?_
  refine r_iconst O dL_law_534 ?_
  refine r_iadd O dL_law_535 ?_
  refine r_sld O hJ (by omega) (by omega) dL_law_536 ?_
  refine n_aload_n O dL_law_537 rfl ?_
  refine n_iload_n O dL_law_538 rfl ?_
  refine r_iconst O dL_law_539 ?_
  refine r_iadd O dL_law_540 ?_
  refine r_sld O hJ (by omega) (by omega) dL_law_541 ?_
  refine r_fV2i (o := 0) 0 85 O (by omega) (fun j hj => jlaw_1 hj) (C_X5_power hI1 rfl c h.1 _ (zB_toInt _) _ (zB_toInt _)) q_L_100 (by decide) (fs := _) rfl rfl rfl (by omega) (by decide) (Nat.le_of_ble_eq_true rfl) dL_law_542 (fun z1 w1 hz1 => ?_)
  refine G_ct jlaw_m1 ?_
  refine n_aload_n O dL_law_545 rfl ?_
  refine n_aload_n O dL_law_546 rfl ?_
  refine n_iload_n O dL_law_547 rfl ?_
  refine r_iconst O dL_law_548 ?_
  refine r_iadd O dL_law_549 ?_
  refine r_sld O hJ (by omega) (by omega) dL_law_550 ?_
  refine n_aload_n O dL_law_551 rfl ?_
  refine n_iload_n O dL_law_552 rfl ?_
  refine r_iconst O dL_law_553 ?_
  refine r_iadd O dL_law_554 ?_
  refine r_sld O hJ (by omega) (by omega) dL_law_555 ?_
  refine r_fV2i (o := 0) 85 11 O (by omega) (fun j hj => jlaw_2) (C_X6_power hI2 rfl tx ty td dr bg ss pa kn im kp ns nd ap la hh tt (c.1 0) (jR_v h) (jR_m h) _ (zB_toInt _) _ (zB_toInt _)) q_L_103 (by decide) (fs := _) rfl rfl rfl (by omega) (by decide) (Nat.le_of_ble_eq_true rfl) dL_law_556 (fun z2 w2 hz2 => ?_)
  obtain ⟨hz, hr⟩ := op_power (ap := ap) (la := la) (dr := dr) (bg := bg) (hh := hh) (tt := tt) h hz1 hz2
  subst hz
  refine r_same (tgt := 758) O dL_law_559 (by decide) ?_
  exact G_eqN (fun q hq => jlaw_m2 (by omega)) (k _ _ hr)
set_option maxHeartbeats 2000000 in
theorem jop_seen {K : zK} {X : zX} {ret : Option FieldType} {f b L : Nat} {sc : Nat → Int32} {i : Int} (O : zO K X cL_law RL ret 4 f) (hf : 6 ≤ f) (hN : kN K = 96) (hJ : jS K X b L sc) (i0 : 0 ≤ i) (i1 : i + 4 ≤ (L : Int)) {u1 u2 : zE} (hR : jRel (zpt K 0 85) (zpt K 85 11) u1 u2) (k : ∀ w1 w2 : zE, jRel (zpt K 0 85) (zpt K 85 11) w1 w2 → G K X 4 758 [(0, .ref b), (1, .ref (kad K 0)), (2, .ref (kad K 85)), (3, .int (iI i))] [] (jlaw w1 w2)) : G K X 4 564 [(0, .ref b), (1, .ref (kad K 0)), (2, .ref (kad K 85)), (3, .int (iI i))] [] (jlaw u1 u2) := by
  obtain ⟨c, tx, ty, td, dr, bg, ss, pa, kn, im, kp, ns, nd, ap, la, hh, tt, h, rfl, rfl⟩ := hR
  have hI1 : zInj (zpt K 0 85) := zpt_inj (zO_I O) (by omega)
  have hI2 : zInj (zpt K 85 11) := zpt_inj (zO_I O) (by omega)
  refine n_aload_n O dL_law_564 rfl ?_
  refine n_aload_n O dL_law_565 rfl ?_
  refine n_iload_n O dL_law_566 rfl ?_
  refine r_iconst O dL_law_567 ?_
  refine r_iadd O dL_law_568 ?_
  refine r_sld O hJ (by omega) (by omega) dL_law_569 ?_
  refine n_aload_n O dL_law_570 rfl ?_
  refine n_iload_n O dL_law_571 rfl ?_
  refine r_iconst O dL_law_572 ?_
  refine r_iadd O dL_law_573 ?_
  refine r_sld O hJ (by omega) (by omega) dL_law_574 ?_
  refine r_fV2i (o := 0) 0 85 O (by omega) (fun j hj => jlaw_1 hj) (C_X5_seen hI1 rfl c h.1 _ (zB_toInt _) _ (zB_toInt _)) q_L_104 (by decide) (fs := _) rfl rfl rfl (by omega) (by decide) (Nat.le_of_ble_eq_true rfl) dL_law_575 (fun z1 w1 hz1 => ?_)
  refine G_ct jlaw_m1 ?_
  refine n_aload_n O dL_law_578 rfl ?_
  refine n_aload_n O dL_law_579 rfl ?_
  refine n_iload_n O dL_law_580 rfl ?_
  refine r_iconst O dL_law_581 ?_
  refine r_iadd O dL_law_582 ?_
  refine r_sld O hJ (by omega) (by omega) dL_law_583 ?_
  refine n_aload_n O dL_law_584 rfl ?_
  refine n_iload_n O dL_law_585 rfl ?_
  refine r_iconst O dL_law_586 ?_
  refine r_iadd O dL_law_587 ?_
  refine r_sld O hJ (by omega) (by omega) dL_law_588 ?_
  refine r_fV2i (o := 0) 85 11 O (by omega) (fun j hj => jlaw_2) (C_X6_seen hI2 rfl tx ty td dr bg ss pa kn im kp ns nd ap la hh tt (c.1 0) (jR_v h) (jR_m h) (jR_nd h) _ (zB_toInt _) _ (zB_toInt _)) q_L_107 (by decide) (fs := _) rfl rfl rfl (by omega) (by decide) (Nat.le_of_ble_eq_true rfl) dL_law_589 (fun z2 w2 hz2 => ?_)
  obtain ⟨hz, hr⟩ := op_seen (ap := ap) (la := la) (dr := dr) (bg := bg) (hh := hh) (tt := tt) h hz1 hz2
  subst hz
  refine r_same (tgt := 758) O dL_law_592 (by decide) ?_
  exact G_eqN (fun q hq => jlaw_m2 (by omega)) (k _ _ hr)
set_option maxHeartbeats 2000000 in
theorem jop_forget {K : zK} {X : zX} {ret : Option FieldType} {f b L : Nat} {sc : Nat → Int32} {i : Int} (O : zO K X cL_law RL ret 4 f) (hf : 6 ≤ f) (hN : kN K = 96) (hJ : jS K X b L sc) (i0 : 0 ≤ i) (i1 : i + 4 ≤ (L : Int)) {u1 u2 : zE} (hR : jRel (zpt K 0 85) (zpt K 85 11) u1 u2) (k : ∀ w1 w2 : zE, jRel (zpt K 0 85) (zpt K 85 11) w1 w2 → G K X 4 758 [(0, .ref b), (1, .ref (kad K 0)), (2, .ref (kad K 85)), (3, .int (iI i))] [] (jlaw w1 w2)) : G K X 4 597 [(0, .ref b), (1, .ref (kad K 0)), (2, .ref (kad K 85)), (3, .int (iI i))] [] (jlaw u1 u2) := by
  obtain ⟨c, tx, ty, td, dr, bg, ss, pa, kn, im, kp, ns, nd, ap, la, hh, tt, h, rfl, rfl⟩ := hR
  have hI1 : zInj (zpt K 0 85) := zpt_inj (zO_I O) (by omega)
  have hI2 : zInj (zpt K 85 11) := zpt_inj (zO_I O) (by omega)
  refine n_aload_n O dL_law_597 rfl ?_
  refine r_fV0i (o := 0) 0 85 O (by omega) (fun j hj => jlaw_1 hj) (C_X5_forget hI1 rfl c h.1 ) q_L_108 (by decide) (fs := _) rfl rfl rfl (by omega) (by decide) (Nat.le_of_ble_eq_true rfl) dL_law_598 (fun z1 w1 hz1 => ?_)
  refine G_ct jlaw_m1 ?_
  refine n_aload_n O dL_law_601 rfl ?_
  refine r_fV0i (o := 0) 85 11 O (by omega) (fun j hj => jlaw_2) (C_X6_forget hI2 rfl tx ty td dr bg ss pa kn im kp ns nd ap la hh tt  ) q_L_111 (by decide) (fs := _) rfl rfl rfl (by omega) (by decide) (Nat.le_of_ble_eq_true rfl) dL_law_602 (fun z2 w2 hz2 => ?_)
  obtain ⟨hz, hr⟩ := op_forget (ap := ap) (la := la) (dr := dr) (bg := bg) (hh := hh) (tt := tt) h hz1 hz2
  subst hz
  refine r_same (tgt := 758) O dL_law_605 (by decide) ?_
  exact G_eqN (fun q hq => jlaw_m2 (by omega)) (k _ _ hr)
set_option maxHeartbeats 2000000 in
theorem jop_may {K : zK} {X : zX} {ret : Option FieldType} {f b L : Nat} {sc : Nat → Int32} {i : Int} (O : zO K X cL_law RL ret 4 f) (hf : 6 ≤ f) (hN : kN K = 96) (hJ : jS K X b L sc) (i0 : 0 ≤ i) (i1 : i + 4 ≤ (L : Int)) {u1 u2 : zE} (hR : jRel (zpt K 0 85) (zpt K 85 11) u1 u2) (k : ∀ w1 w2 : zE, jRel (zpt K 0 85) (zpt K 85 11) w1 w2 → G K X 4 758 [(0, .ref b), (1, .ref (kad K 0)), (2, .ref (kad K 85)), (3, .int (iI i))] [] (jlaw w1 w2)) : G K X 4 610 [(0, .ref b), (1, .ref (kad K 0)), (2, .ref (kad K 85)), (3, .int (iI i))] [] (jlaw u1 u2) := by
  obtain ⟨c, tx, ty, td, dr, bg, ss, pa, kn, im, kp, ns, nd, ap, la, hh, tt, h, rfl, rfl⟩ := hR
  have hI1 : zInj (zpt K 0 85) := zpt_inj (zO_I O) (by omega)
  have hI2 : zInj (zpt K 85 11) := zpt_inj (zO_I O) (by omega)
  refine n_aload_n O dL_law_610 rfl ?_
  refine n_aload_n O dL_law_611 rfl ?_
  refine n_iload_n O dL_law_612 rfl ?_
  refine r_iconst O dL_law_613 ?_
  refine r_iadd O dL_law_614 ?_
  refine r_sld O hJ (by omega) (by omega) dL_law_615 ?_
  refine r_fV1i (o := 0) 0 85 O (by omega) (fun j hj => jlaw_1 hj) (C_X5_may hI1 rfl c h.1 _ (zB_toInt _)) q_L_112 (by decide) (fs := _) rfl rfl rfl (by omega) (by decide) (Nat.le_of_ble_eq_true rfl) dL_law_616 (fun z1 w1 hz1 => ?_)
  refine G_ct jlaw_m1 ?_
  refine n_aload_n O dL_law_619 rfl ?_
  refine n_aload_n O dL_law_620 rfl ?_
  refine n_iload_n O dL_law_621 rfl ?_
  refine r_iconst O dL_law_622 ?_
  refine r_iadd O dL_law_623 ?_
  refine r_sld O hJ (by omega) (by omega) dL_law_624 ?_
  refine r_fV1i (o := 0) 85 11 O (by omega) (fun j hj => jlaw_2) (C_X6_may hI2 rfl tx ty td dr bg ss pa kn im kp ns nd ap la hh tt (c.1 0) (jR_v h) (jR_m h) (jR_ns h) _ (zB_toInt _)) q_L_115 (by decide) (fs := _) rfl rfl rfl (by omega) (by decide) (Nat.le_of_ble_eq_true rfl) dL_law_625 (fun z2 w2 hz2 => ?_)
  obtain ⟨hz, hr⟩ := op_may (ap := ap) (la := la) (dr := dr) (bg := bg) (hh := hh) (tt := tt) h hz1 hz2
  subst hz
  refine r_same (tgt := 758) O dL_law_628 (by decide) ?_
  exact G_eqN (fun q hq => jlaw_m2 (by omega)) (k _ _ hr)
set_option maxHeartbeats 2000000 in
theorem jop_likely {K : zK} {X : zX} {ret : Option FieldType} {f b L : Nat} {sc : Nat → Int32} {i : Int} (O : zO K X cL_law RL ret 4 f) (hf : 6 ≤ f) (hN : kN K = 96) (hJ : jS K X b L sc) (i0 : 0 ≤ i) (i1 : i + 4 ≤ (L : Int)) {u1 u2 : zE} (hR : jRel (zpt K 0 85) (zpt K 85 11) u1 u2) (k : ∀ w1 w2 : zE, jRel (zpt K 0 85) (zpt K 85 11) w1 w2 → G K X 4 758 [(0, .ref b), (1, .ref (kad K 0)), (2, .ref (kad K 85)), (3, .int (iI i))] [] (jlaw w1 w2)) : G K X 4 633 [(0, .ref b), (1, .ref (kad K 0)), (2, .ref (kad K 85)), (3, .int (iI i))] [] (jlaw u1 u2) := by
  obtain ⟨c, tx, ty, td, dr, bg, ss, pa, kn, im, kp, ns, nd, ap, la, hh, tt, h, rfl, rfl⟩ := hR
  have hI1 : zInj (zpt K 0 85) := zpt_inj (zO_I O) (by omega)
  have hI2 : zInj (zpt K 85 11) := zpt_inj (zO_I O) (by omega)
  refine n_aload_n O dL_law_633 rfl ?_
  refine n_aload_n O dL_law_634 rfl ?_
  refine n_iload_n O dL_law_635 rfl ?_
  refine r_iconst O dL_law_636 ?_
  refine r_iadd O dL_law_637 ?_
  refine r_sld O hJ (by omega) (by omega) dL_law_638 ?_
  refine n_aload_n O dL_law_639 rfl ?_
  refine n_iload_n O dL_law_640 rfl ?_
  refine r_iconst O dL_law_641 ?_
  refine r_iadd O dL_law_642 ?_
  refine r_sld O hJ (by omega) (by omega) dL_law_643 ?_
  refine r_fV2i (o := 0) 0 85 O (by omega) (fun j hj => jlaw_1 hj) (C_X5_likely hI1 rfl c h.1 _ (zB_toInt _) _ (zB_toInt _)) q_L_116 (by decide) (fs := _) rfl rfl rfl (by omega) (by decide) (Nat.le_of_ble_eq_true rfl) dL_law_644 (fun z1 w1 hz1 => ?_)
  refine G_ct jlaw_m1 ?_
  refine n_aload_n O dL_law_647 rfl ?_
  refine n_aload_n O dL_law_648 rfl ?_
  refine n_iload_n O dL_law_649 rfl ?_
  refine r_iconst O dL_law_650 ?_
  refine r_iadd O dL_law_651 ?_
  refine r_sld O hJ (by omega) (by omega) dL_law_652 ?_
  refine n_aload_n O dL_law_653 rfl ?_
  refine n_iload_n O dL_law_654 rfl ?_
  refine r_iconst O dL_law_655 ?_
  refine r_iadd O dL_law_656 ?_
  refine r_sld O hJ (by omega) (by omega) dL_law_657 ?_
  refine r_fV2i (o := 0) 85 11 O (by omega) (fun j hj => jlaw_2) (C_X6_likely hI2 rfl tx ty td dr bg ss pa kn im kp ns nd ap la hh tt (c.1 0) (jR_v h) (jR_m h) _ (zB_toInt _) _ (zB_toInt _)) q_L_119 (by decide) (fs := _) rfl rfl rfl (by omega) (by decide) (Nat.le_of_ble_eq_true rfl) dL_law_658 (fun z2 w2 hz2 => ?_)
  obtain ⟨hz, hr⟩ := op_likely (ap := ap) (la := la) (dr := dr) (bg := bg) (hh := hh) (tt := tt) h hz1 hz2
  subst hz
  refine r_same (tgt := 758) O dL_law_661 (by decide) ?_
  exact G_eqN (fun q hq => jlaw_m2 (by omega)) (k _ _ hr)
set_option maxHeartbeats 2000000 in
theorem jop_century {K : zK} {X : zX} {ret : Option FieldType} {f b L : Nat} {sc : Nat → Int32} {i : Int} (O : zO K X cL_law RL ret 4 f) (hf : 6 ≤ f) (hN : kN K = 96) (hJ : jS K X b L sc) (i0 : 0 ≤ i) (i1 : i + 4 ≤ (L : Int)) {u1 u2 : zE} (hR : jRel (zpt K 0 85) (zpt K 85 11) u1 u2) (k : ∀ w1 w2 : zE, jRel (zpt K 0 85) (zpt K 85 11) w1 w2 → G K X 4 758 [(0, .ref b), (1, .ref (kad K 0)), (2, .ref (kad K 85)), (3, .int (iI i))] [] (jlaw w1 w2)) : G K X 4 666 [(0, .ref b), (1, .ref (kad K 0)), (2, .ref (kad K 85)), (3, .int (iI i))] [] (jlaw u1 u2) := by
  obtain ⟨c, tx, ty, td, dr, bg, ss, pa, kn, im, kp, ns, nd, ap, la, hh, tt, h, rfl, rfl⟩ := hR
  have hI1 : zInj (zpt K 0 85) := zpt_inj (zO_I O) (by omega)
  have hI2 : zInj (zpt K 85 11) := zpt_inj (zO_I O) (by omega)
  refine n_aload_n O dL_law_666 rfl ?_
  refine n_aload_n O dL_law_667 rfl ?_
  refine n_iload_n O dL_law_668 rfl ?_
  refine r_iconst O dL_law_669 ?_
  refine r_iadd O dL_law_670 ?_
  refine r_sld O hJ (by omega) (by omega) dL_law_671 ?_
  refine n_aload_n O dL_law_672 rfl ?_
  refine n_iload_n O dL_law_673 rfl ?_
  refine r_iconst O dL_law_674 ?_
  refine r_iadd O dL_law_675 ?_
  refine r_sld O hJ (by omega) (by omega) dL_law_676 ?_
  refine n_aload_n O dL_law_677 rfl ?_
  refine n_iload_n O dL_law_678 rfl ?_
  refine r_iconst O dL_law_679 ?_
  refine r_iadd O dL_law_680 ?_
  refine r_sld O hJ (by omega) (by omega) dL_law_681 ?_
  refine r_fV3i (o := 0) 0 85 O (by omega) (fun j hj => jlaw_1 hj) (C_X5_century hI1 rfl c h.1 _ (zB_toInt _) _ (zB_toInt _) _ (zB_toInt _)) q_L_120 (by decide) (fs := _) rfl rfl rfl (by omega) (by decide) (Nat.le_of_ble_eq_true rfl) dL_law_682 (fun z1 w1 hz1 => ?_)
  refine G_ct jlaw_m1 ?_
  refine n_aload_n O dL_law_685 rfl ?_
  refine n_aload_n O dL_law_686 rfl ?_
  refine n_iload_n O dL_law_687 rfl ?_
  refine r_iconst O dL_law_688 ?_
  refine r_iadd O dL_law_689 ?_
  refine r_sld O hJ (by omega) (by omega) dL_law_690 ?_
  refine n_aload_n O dL_law_691 rfl ?_
  refine n_iload_n O dL_law_692 rfl ?_
  refine r_iconst O dL_law_693 ?_
  refine r_iadd O dL_law_694 ?_
  refine r_sld O hJ (by omega) (by omega) dL_law_695 ?_
  refine n_aload_n O dL_law_696 rfl ?_
  refine n_iload_n O dL_law_697 rfl ?_
  refine r_iconst O dL_law_698 ?_
  refine r_iadd O dL_law_699 ?_
  refine r_sld O hJ (by omega) (by omega) dL_law_700 ?_
  refine r_fV3i (o := 0) 85 11 O (by omega) (fun j hj => jlaw_2) (C_X6_century hI2 rfl tx ty td dr bg ss pa kn im kp ns nd ap la hh tt (c.1 0) (jR_v h) (jR_m h) _ (zB_toInt _) _ (zB_toInt _) _ (zB_toInt _)) q_L_124 (by decide) (fs := _) rfl rfl rfl (by omega) (by decide) (Nat.le_of_ble_eq_true rfl) dL_law_701 (fun z2 w2 hz2 => ?_)
  obtain ⟨hz, hr⟩ := op_century (ap := ap) (la := la) (dr := dr) (bg := bg) (hh := hh) (tt := tt) h hz1 hz2
  subst hz
  refine r_same (tgt := 758) O dL_law_704 (by decide) ?_
  exact G_eqN (fun q hq => jlaw_m2 (by omega)) (k _ _ hr)
set_option maxHeartbeats 2000000 in
theorem jop_keep {K : zK} {X : zX} {ret : Option FieldType} {f b L : Nat} {sc : Nat → Int32} {i : Int} (O : zO K X cL_law RL ret 4 f) (hf : 6 ≤ f) (hN : kN K = 96) (hJ : jS K X b L sc) (i0 : 0 ≤ i) (i1 : i + 4 ≤ (L : Int)) {u1 u2 : zE} (hR : jRel (zpt K 0 85) (zpt K 85 11) u1 u2) (k : ∀ w1 w2 : zE, jRel (zpt K 0 85) (zpt K 85 11) w1 w2 → G K X 4 758 [(0, .ref b), (1, .ref (kad K 0)), (2, .ref (kad K 85)), (3, .int (iI i))] [] (jlaw w1 w2)) : G K X 4 709 [(0, .ref b), (1, .ref (kad K 0)), (2, .ref (kad K 85)), (3, .int (iI i))] [] (jlaw u1 u2) := by
  obtain ⟨c, tx, ty, td, dr, bg, ss, pa, kn, im, kp, ns, nd, ap, la, hh, tt, h, rfl, rfl⟩ := hR
  have hI1 : zInj (zpt K 0 85) := zpt_inj (zO_I O) (by omega)
  have hI2 : zInj (zpt K 85 11) := zpt_inj (zO_I O) (by omega)
  refine n_aload_n O dL_law_709 rfl ?_
  refine r_fV0i (o := 0) 0 85 O (by omega) (fun j hj => jlaw_1 hj) (C_X5_keep hI1 rfl c h.1 ) q_L_125 (by decide) (fs := _) rfl rfl rfl (by omega) (by decide) (Nat.le_of_ble_eq_true rfl) dL_law_710 (fun z1 w1 hz1 => ?_)
  refine G_ct jlaw_m1 ?_
  refine n_aload_n O dL_law_713 rfl ?_
  refine r_fV0i (o := 0) 85 11 O (by omega) (fun j hj => jlaw_2) (C_X6_keep hI2 rfl tx ty td dr bg ss pa kn im kp ns nd ap la hh tt (jR_kp h) ) q_L_128 (by decide) (fs := _) rfl rfl rfl (by omega) (by decide) (Nat.le_of_ble_eq_true rfl) dL_law_714 (fun z2 w2 hz2 => ?_)
  obtain ⟨hz, hr⟩ := op_keep (ap := ap) (la := la) (dr := dr) (bg := bg) (hh := hh) (tt := tt) h hz1 hz2
  subst hz
  refine r_same (tgt := 758) O dL_law_717 (by decide) ?_
  exact G_eqN (fun q hq => jlaw_m2 (by omega)) (k _ _ hr)
set_option maxHeartbeats 2000000 in
theorem jop_back {K : zK} {X : zX} {ret : Option FieldType} {f b L : Nat} {sc : Nat → Int32} {i : Int} (O : zO K X cL_law RL ret 4 f) (hf : 6 ≤ f) (hN : kN K = 96) (hJ : jS K X b L sc) (i0 : 0 ≤ i) (i1 : i + 4 ≤ (L : Int)) {u1 u2 : zE} (hR : jRel (zpt K 0 85) (zpt K 85 11) u1 u2) (k : ∀ w1 w2 : zE, jRel (zpt K 0 85) (zpt K 85 11) w1 w2 → G K X 4 758 [(0, .ref b), (1, .ref (kad K 0)), (2, .ref (kad K 85)), (3, .int (iI i))] [] (jlaw w1 w2)) : G K X 4 722 [(0, .ref b), (1, .ref (kad K 0)), (2, .ref (kad K 85)), (3, .int (iI i))] [] (jlaw u1 u2) := by
  obtain ⟨c, tx, ty, td, dr, bg, ss, pa, kn, im, kp, ns, nd, ap, la, hh, tt, h, rfl, rfl⟩ := hR
  have hI1 : zInj (zpt K 0 85) := zpt_inj (zO_I O) (by omega)
  have hI2 : zInj (zpt K 85 11) := zpt_inj (zO_I O) (by omega)
  refine n_aload_n O dL_law_722 rfl ?_
  refine r_fV0i (o := 0) 0 85 O (by omega) (fun j hj => jlaw_1 hj) (C_X5_back hI1 rfl c h.1 ) q_L_129 (by decide) (fs := _) rfl rfl rfl (by omega) (by decide) (Nat.le_of_ble_eq_true rfl) dL_law_723 (fun z1 w1 hz1 => ?_)
  refine G_ct jlaw_m1 ?_
  refine n_aload_n O dL_law_726 rfl ?_
  refine r_fV0i (o := 0) 85 11 O (by omega) (fun j hj => jlaw_2) (C_X6_back hI2 rfl tx ty td dr bg ss pa kn im kp ns nd ap la hh tt (jR_kp h) ) q_L_132 (by decide) (fs := _) rfl rfl rfl (by omega) (by decide) (Nat.le_of_ble_eq_true rfl) dL_law_727 (fun z2 w2 hz2 => ?_)
  obtain ⟨hz, hr⟩ := op_back (ap := ap) (la := la) (dr := dr) (bg := bg) (hh := hh) (tt := tt) h hz1 hz2
  subst hz
  refine r_same (tgt := 758) O dL_law_730 (by decide) ?_
  exact G_eqN (fun q hq => jlaw_m2 (by omega)) (k _ _ hr)
set_option maxHeartbeats 2000000 in
theorem jop_count {K : zK} {X : zX} {ret : Option FieldType} {f b L : Nat} {sc : Nat → Int32} {i : Int} (O : zO K X cL_law RL ret 4 f) (hf : 6 ≤ f) (hN : kN K = 96) (hJ : jS K X b L sc) (i0 : 0 ≤ i) (i1 : i + 4 ≤ (L : Int)) {u1 u2 : zE} (hR : jRel (zpt K 0 85) (zpt K 85 11) u1 u2) (k : ∀ w1 w2 : zE, jRel (zpt K 0 85) (zpt K 85 11) w1 w2 → G K X 4 758 [(0, .ref b), (1, .ref (kad K 0)), (2, .ref (kad K 85)), (3, .int (iI i))] [] (jlaw w1 w2)) : G K X 4 735 [(0, .ref b), (1, .ref (kad K 0)), (2, .ref (kad K 85)), (3, .int (iI i))] [] (jlaw u1 u2) := by
  obtain ⟨c, tx, ty, td, dr, bg, ss, pa, kn, im, kp, ns, nd, ap, la, hh, tt, h, rfl, rfl⟩ := hR
  have hI1 : zInj (zpt K 0 85) := zpt_inj (zO_I O) (by omega)
  have hI2 : zInj (zpt K 85 11) := zpt_inj (zO_I O) (by omega)
  refine n_aload_n O dL_law_735 rfl ?_
  refine n_aload_n O dL_law_736 rfl ?_
  refine n_iload_n O dL_law_737 rfl ?_
  refine r_iconst O dL_law_738 ?_
  refine r_iadd O dL_law_739 ?_
  refine r_sld O hJ (by omega) (by omega) dL_law_740 ?_
  refine r_fV1i (o := 0) 0 85 O (by omega) (fun j hj => jlaw_1 hj) (C_X5_count hI1 rfl c h.1 _ (zB_toInt _)) q_L_133 (by decide) (fs := _) rfl rfl rfl (by omega) (by decide) (Nat.le_of_ble_eq_true rfl) dL_law_741 (fun z1 w1 hz1 => ?_)
  refine G_ct jlaw_m1 ?_
  refine n_aload_n O dL_law_744 rfl ?_
  refine n_aload_n O dL_law_745 rfl ?_
  refine n_iload_n O dL_law_746 rfl ?_
  refine r_iconst O dL_law_747 ?_
  refine r_iadd O dL_law_748 ?_
  refine r_sld O hJ (by omega) (by omega) dL_law_749 ?_
  refine r_fV1i (o := 0) 85 11 O (by omega) (fun j hj => jlaw_2) (C_X6_count hI2 rfl tx ty td dr bg ss pa kn im kp ns nd ap la hh tt (c.1 0) (jR_v h) (jR_m h) _ (zB_toInt _)) q_L_136 (by decide) (fs := _) rfl rfl rfl (by omega) (by decide) (Nat.le_of_ble_eq_true rfl) dL_law_750 (fun z2 w2 hz2 => ?_)
  obtain ⟨hz, hr⟩ := op_count (ap := ap) (la := la) (dr := dr) (bg := bg) (hh := hh) (tt := tt) h hz1 hz2
  subst hz
  refine r_same (tgt := 758) O dL_law_753 (by decide) ?_
  exact G_eqN (fun q hq => jlaw_m2 (by omega)) (k _ _ hr)
