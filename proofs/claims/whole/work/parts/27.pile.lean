/-! A PILE IS MADE -/
def jsP0 (U : State) : Prop := va_Nw (.methodLinkNest RX0 21 yX3_init RX5) U ∧ va_AO RX3 U
theorem jsP0_bl (a : Array Value) (U : State) (g : JFrame) (mk : MethodId) (h : jsP0 U) : jsP0 (U.calling g mk a) := ⟨va_Nw.same rfl rfl h.1, va_AO.moved (u := U) (U := U.calling g mk a) (Vm.Alike.refl U.vm) h.2⟩
theorem jsP0_pk {s U : State} (h : jsP0 s) (hW : s.WarmedH U.vm) : jsP0 U := ⟨va_Nw.warmM hW h.1, va_AO.moved hW.alike h.2⟩
/-- a sitting as it is made: its cells from b on -/
def jsit (K : zK) (b : Nat) : Nat → va_E := fun a => match a with
  | 0 => .inr (3, [.ref (kad K (b + 1)), .ref (kad K (b + 2)), .ref (kad K (b + 3)), .ref (kad K (b + 4)), .ref (kad K (b + 5)), .int (iI 0), .int (iI 0), .int (iI 0), .int (iI 0), .int (iI 0), .int (iI 0)])
  | _ => z0 (kI K) 7
theorem jsit_c {K K2 : zK} {b : Nat} (e : kI K = kI K2) (h : ∀ i : Nat, i ≤ 5 → kad K (b + i) = kad K2 (b + i)) (a : Nat) : jsit K b a = jsit K2 b a := by
  unfold jsit
  match a with
  | 0 => simp only [h 1 (by omega), h 2 (by omega), h 3 (by omega), h 4 (by omega), h 5 (by omega)]
  | _ + 1 => simp only [e]
/-- a pile of m half made: k sittings -/
def pInv (K : zK) (o : Nat) (ct : zE) (m k : Nat) (L : List Nat) (u : zE) : Prop := L.length = 1 + 6 * k ∧ u o = .inr (0, [.ref (kad (zx K L) (kN K)), .int (iI 0)]) ∧ u (kN K) = .inl (kS K, m, .inr (.inr (.inr (.inr (fun q => if q < k then some (kad (zx K L) (kN K + 1 + 6 * q)) else none))))) ∧ (∀ j a : Nat, j < k → a < 6 → u (kN K + 1 + 6 * j + a) = jsit (zx K L) (kN K + 1 + 6 * j) a) ∧ ∀ i : Nat, i < kN K → i ≠ o → u i = ct i
theorem pInv_s {K : zK} {o : Nat} (ho : o < kN K) {ct : zE} {m k : Nat} {L L2 : List Nat} {u u2 : zE} {q : Nat} (h : pInv K o ct m k L u) (hL : L2.length = 5) (h1 : u2 (kN (zx K L)) = .inr (3, [.ref (kad (zx (zx (zx K L) [q]) L2) (kN (zx (zx K L) [q]) + 0)), .ref (kad (zx (zx (zx K L) [q]) L2) (kN (zx (zx K L) [q]) + 1)), .ref (kad (zx (zx (zx K L) [q]) L2) (kN (zx (zx K L) [q]) + 2)), .ref (kad (zx (zx (zx K L) [q]) L2) (kN (zx (zx K L) [q]) + 3)), .ref (kad (zx (zx (zx K L) [q]) L2) (kN (zx (zx K L) [q]) + 4)), .int (iI 0), .int (iI 0), .int (iI 0), .int (iI 0), .int (iI 0), .int (iI 0)]))
    (h2 : ∀ j : Nat, j < 5 → u2 (kN (zx (zx K L) [q]) + j) = z0 (kI K) 7) (h3 : ∀ i, i < kN (zx K L) → u2 i = u i) : pInv K o ct m (k + 1) (L ++ [q] ++ L2) (zup u2 (kN K) (.inl (kS K, m, .inr (.inr (.inr (.inr (va_up (fun q => if q < k then some (kad (zx K L) (kN K + 1 + 6 * q)) else none) k (some q)))))))) := by
  obtain ⟨g1, g2, g3, g4, g5⟩ := h
  have eN : kN (zx K L) = kN K + (1 + 6 * k) := by rw [kN_zx, g1]
  have eN2 : kN (zx (zx K L) [q]) = kN K + (1 + 6 * k) + 1 := by rw [kN_zx, eN]; rfl
  have e3 : zx (zx (zx K L) [q]) L2 = zx K (L ++ [q] ++ L2) := by rw [zx_app, zx_app, List.append_assoc]
  have old : ∀ i, i < kN K + (1 + 6 * k) → kad (zx K (L ++ [q] ++ L2)) i = kad (zx K L) i := by
    intro i hi
    rw [← e3, zx_old (by rw [eN2]; omega), zx_old (by rw [eN]; omega)]
  have new : kad (zx K (L ++ [q] ++ L2)) (kN K + (1 + 6 * k)) = q := by
    rw [← e3, zx_old (by rw [eN2]; omega), zx_new (by rw [eN]; omega), eN, Nat.sub_self]
    rfl
  rw [e3] at h1
  rw [eN] at h1 h3
  rw [eN2] at h1 h2
  refine ⟨?_, ?_, ?_, ?_, ?_⟩
  · rw [List.length_append, List.length_append, g1, hL]
    show 1 + 6 * k + 1 + 5 = _
    omega
  · rw [zup_n _ _ (by omega), h3 o (by omega), g2, old _ (by omega)]
  · rw [zup_s]
    have eF : va_up (fun q => if q < k then some (kad (zx K L) (kN K + 1 + 6 * q)) else none) k (some q) = fun y => if y < k + 1 then some (kad (zx K (L ++ [q] ++ L2)) (kN K + 1 + 6 * y)) else none := by
      funext y
      unfold va_up
      by_cases hy : y = k
      · rw [if_pos hy, if_pos (by omega), hy, show kN K + 1 + 6 * k = kN K + (1 + 6 * k) by omega, new]
      · rw [if_neg hy]
        show (if y < k then some (kad (zx K L) (kN K + 1 + 6 * y)) else none) = _
        by_cases hy2 : y < k
        · rw [if_pos hy2, if_pos (by omega), old _ (by omega)]
        · rw [if_neg hy2, if_neg (by omega)]
    rw [eF]
  · intro j a hj ha
    rw [zup_n _ _ (by omega)]
    by_cases hj2 : j < k
    · rw [h3 _ (by omega), g4 j a hj2 ha]
      exact jsit_c (K := zx K L) (K2 := zx K (L ++ [q] ++ L2)) (b := kN K + 1 + 6 * j) rfl (fun i hi => (old _ (by omega)).symm) a
    · have e : j = k := by omega
      subst e
      by_cases ha0 : a = 0
      · subst ha0
        rw [show kN K + 1 + 6 * j + 0 = kN K + (1 + 6 * j) by omega, h1]
        rw [show kN K + 1 + 6 * j = kN K + (1 + 6 * j) by omega]
        rfl
      · have h4 := h2 (a - 1) (by omega)
        rw [show kN K + (1 + 6 * j) + 1 + (a - 1) = kN K + 1 + 6 * j + a by omega] at h4
        rw [h4]
        unfold jsit
        match a, ha0 with
        | a + 1, _ => rfl
  · intro i hi hio
    rw [zup_n _ _ (by omega), h3 i (by omega)]
    exact g5 i hi hio
set_option maxHeartbeats 4000000 in
theorem I_X0_init {K : zK} (hI : zInj K) (o : Nat) (ho : o < kN K) (ct : zE) (he : ct o = .inr (0, [.null, .int (iI 0)])) (m : Nat) (h1 : 1 ≤ m) (h8 : m ≤ 8) : zN K yX0_init cX0_init 3 2 (1 + 6 * m) (m + 46 * m) [.ref (kad K o), .int (iI (m : Int))] ct jsP0 (fun L u => pInv K o ct m m L u) := by
  refine zN_in hI (by decide +kernel) (Nat.le_of_ble_eq_true rfl) rfl (fun X O hnm hA hP hxc hxn hRc hRn hE => ?_)
  refine n_aload_n O dX0_init_0 rfl ?_
  refine r_objI O zoL_X0 zoI zoC (by decide) (by decide) dX0_init_1 ?_
  refine n_aload_n O dX0_init_4 rfl ?_
  refine n_iload_n O dX0_init_5 rfl ?_
  refine r_iconst O dX0_init_6 ?_
  refine r_max O qm_X0_7 (by decide) (Nat.le_of_ble_eq_true rfl) ⟨by omega, by omega⟩ ⟨by omega, by omega⟩ dX0_init_7 ?_
  rw [show max (m : Int) 1 = (m : Int) by omega]
  refine r_newS m O hA zcl_X0_13 hP.2 (by omega) (by omega) (by omega) dX0_init_10 (fun q0 O0 => ?_)
  have hk0 : kad (zx K [q0]) o = kad K o := zx_old ho
  refine r_putF (a := o) (ty := .array (.object "SpoonVotes$Sitting")) O0 hnm (Nat.lt_of_lt_of_le ho (Nat.le_add_right _ _)) hk0 ((zup_n _ _ (Nat.ne_of_lt ho)).trans he) zCl0 fl_X0_15 (by decide) rfl (by decide +kernel) rfl rfl (Nat.le_of_ble_eq_true rfl) dX0_init_13 ?_
  refine r_iconst O0 dX0_init_16 ?_
  refine n_istore_n O0 dX0_init_17 (by decide) rfl ?_
  have loop : ∀ (r k : Nat) (L : List Nat) (u : zE), k + r = m → pInv K o ct m k L u → zO (zx K L) (zXg X (1 + 6 * k) (m + 46 * k)) cX0_init yX0_init.cls none 3 2 → G (zx K L) (zXg X (1 + 6 * k) (m + 46 * k)) 3 18 [(0, .ref (kad K o)), (1, .int (iI (m : Int))), (2, .int (iI (k : Int)))] [] u := by
    intro r
    induction r with
    | zero =>
      intro k L u hk hv OL
      have hko : kad (zx K L) o = kad K o := zx_old ho
      have hkm : k = m := by omega
      refine n_iload_n OL dX0_init_18 rfl ?_
      refine n_aload_n OL dX0_init_19 rfl ?_
      rw [← hko]
      refine r_get (a := o) OL (Nat.lt_of_lt_of_le ho (Nat.le_add_right _ _)) hv.2.1 zCl0 fl_X0_15 (by decide) rfl dX0_init_20 ?_
      refine r_alen (a := kN K) (n := m) OL (by rw [kN_zx, hv.1]; omega) hv.2.2.1 (Or.inr (Or.inr rfl)) rfl dX0_init_23 ?_
      refine r_icmp_ge (tgt := 46) OL ⟨by omega, by omega⟩ ⟨by omega, by omega⟩ dX0_init_24 (by decide) (fun _ => ?_) (fun hc => absurd (by omega) hc)
      subst hkm
      have h9 := OL
      obtain ⟨-, -, -, -, -, -, -, -, -, hI2, -⟩ := h9
      exact hE _ _ _ _ _ _ (Nat.le_refl _) (Nat.le_refl _) dX0_init_46 hv hI2
    | succ r ih =>
      intro k L u hk hv OL
      have hko : kad (zx K L) o = kad K o := zx_old ho
      have eN : kN (zx K L) = kN K + (1 + 6 * k) := by rw [kN_zx, hv.1]
      refine n_iload_n OL dX0_init_18 rfl ?_
      refine n_aload_n OL dX0_init_19 rfl ?_
      rw [← hko]
      refine r_get (a := o) OL (Nat.lt_of_lt_of_le ho (Nat.le_add_right _ _)) hv.2.1 zCl0 fl_X0_15 (by decide) rfl dX0_init_20 ?_
      refine r_alen (a := kN K) (n := m) OL (by rw [eN]; omega) hv.2.2.1 (Or.inr (Or.inr rfl)) rfl dX0_init_23 ?_
      refine r_icmp_ge (tgt := 46) OL ⟨by omega, by omega⟩ ⟨by omega, by omega⟩ dX0_init_24 (by decide) (fun hc => absurd hc (by omega)) (fun _ => ?_)
      refine n_aload_n OL dX0_init_27 rfl ?_
      refine r_get (a := o) OL (Nat.lt_of_lt_of_le ho (Nat.le_add_right _ _)) hv.2.1 zCl0 fl_X0_15 (by decide) rfl dX0_init_28 ?_
      refine n_iload_n OL dX0_init_31 rfl ?_
      refine r_new (ci := 3) (fs := [.null, .null, .null, .null, .null, .int (iI 0), .int (iI 0), .int (iI 0), .int (iI 0), .int (iI 0), .int (iI 0)]) OL hA zCl3 zcl_X0_13 zns_X3 zin_X3 tyX3_ok (by decide +kernel) (by show xc X + (1 + 6 * k) + 1 ≤ (xR X).cells; omega) (by show xn X + (m + 46 * k) + 11 ≤ (xR X).slots; omega) dX0_init_32 (fun q O1 => ?_)
      refine r_dup O1 rfl dX0_init_35 ?_
      have hq : kad (zx (zx K L) [q]) (kN (zx K L)) = q := by
        rw [zx_new (Nat.le_refl _), Nat.sub_self]
        rfl
      have hI1 : zInj (zx (zx K L) [q]) := by
        have h9 := O1
        obtain ⟨-, -, -, -, -, -, -, -, -, hI2, -⟩ := h9
        exact hI2
      have hC := I_X3_init hI1 (kN (zx K L)) (Nat.lt_succ_self _) (zup u (kN (zx K L)) (.inr (3, [.null, .null, .null, .null, .null, .int (iI 0), .int (iI 0), .int (iI 0), .int (iI 0), .int (iI 0), .int (iI 0)]))) (zup_s _ _ _)
      rw [hq] at hC
      refine r_callIN0 O1 hA hC (fun _ _ _ _ h => h) (fun _ _ _ _ _ _ => trivial) hP.1 zi_X3_init zin_X3 zc_X3_init ⟨by decide +kernel, by decide +kernel, by decide +kernel⟩ rfl (by decide) (by decide) (Nat.le_of_ble_eq_true rfl) (by show xc X + (1 + 6 * k) + 1 + 5 ≤ (xR X).cells; omega) (by show xn X + (m + 46 * k) + 11 + 35 ≤ (xR X).slots; omega) dX0_init_36 (fun L2 u2 hu O2 => ?_)
      obtain ⟨p1, p2, ⟨p3, p4, p5, p6, p7⟩, p8⟩ := hu
      have e3 : zx (zx (zx K L) [q]) L2 = zx K (L ++ [q] ++ L2) := by rw [zx_app, zx_app, List.append_assoc]
      have hn3 : kN (zx (zx (zx K L) [q]) L2) = kN K + (1 + 6 * k) + 1 + 5 := by rw [kN_zx, p1, kN_zx, eN]; rfl
      refine r_aastF (a := kN K) (v := kN (zx K L)) (z := k) (n := m) (g := fun q => if q < k then some (kad (zx K L) (kN K + 1 + 6 * q)) else none) O2 (by rw [hn3]; omega) (by rw [zx_old (by rw [kN_zx, eN]; omega), zx_old (by rw [eN]; omega)]) (by
        rw [p8 _ (by rw [kN_zx, eN]; omega) (by rw [eN]; omega), zup_n _ _ (by rw [eN]; omega)]
        exact hv.2.2.1) (by rw [hn3, eN]; omega) (by rw [zx_old (Nat.lt_succ_self _)]; exact hq) p2 (by omega) (by omega) dX0_init_39 ?_
      refine n_iinc O2 dX0_init_40 (by decide) rfl rfl ?_
      refine r_goto (tgt := 18) O2 dX0_init_43 (by decide) ?_
      have hs := pInv_s (u2 := u2) (q := q) (L2 := L2) ho hv p1 p2 (fun j hj => by
        match j, hj with
        | 0, _ => exact p3
        | 1, _ => exact p4
        | 2, _ => exact p5
        | 3, _ => exact p6
        | 4, _ => exact p7) (fun i hi => by rw [p8 i (Nat.lt_of_lt_of_le hi (Nat.le_add_right _ _)) (Nat.ne_of_lt hi), zup_n _ _ (Nat.ne_of_lt hi)])
      have eX : zXg (zXg (zXg X (1 + 6 * k) (m + 46 * k)) 1 11) 5 35 = zXg X (1 + 6 * (k + 1)) (m + 46 * (k + 1)) := by
        rw [zXg_app, zXg_app]
        congr 1 <;> omega
      rw [e3, eX] at O2
      refine G_cast e3 eX ?_
      exact G_chk (ih (k + 1) _ _ (by omega) hs O2) (zsc (by rw [← hko]; rfl) (zsc rfl (zsc rfl zsn)))
  refine G_chk (loop m 0 [q0] _ (by omega) ⟨rfl, ?_, ?_, fun j a hj => absurd hj (Nat.not_lt_zero _), fun i hi hio => ?_⟩ O0) (zsc rfl (zsc rfl (zsc rfl zsn)))
  · rw [zup_s, zx_new (Nat.le_refl _), Nat.sub_self]
    rfl
  · rw [zup_n _ _ (Nat.ne_of_gt ho), zup_s]
    rfl
  · rw [zup_n _ _ hio, zup_n _ _ (Nat.ne_of_lt hi)]
