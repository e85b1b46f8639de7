theorem zoI : Cond.instanceMethod Lib.objectInit ∈ zTB := zTB_of (zmem1 (List.mem_of_getElem? (i := 21) rfl)) rfl
theorem zoC : Cond.code Lib.objectInit ⟨#[0xb1]⟩ 1 none ∈ zTB := zTB_of (zmem1 (List.mem_of_getElem? (i := 22) rfl)) rfl
theorem zin_X5 : Cond.initialized RX5 ∈ zTB := zTB_of (zmem1 (List.mem_of_getElem? (i := 1) rfl)) rfl
theorem zin_X4 : Cond.initialized RX4 ∈ zTB := zTB_of (zmem1 (List.mem_of_getElem? (i := 2) rfl)) rfl
theorem zin_X3 : Cond.initialized RX3 ∈ zTB := zTB_of (zmem1 (List.mem_of_getElem? (i := 3) rfl)) rfl
theorem zin_X1 : Cond.initialized RX1 ∈ zTB := zTB_of (zmem1 (List.mem_of_getElem? (i := 4) rfl)) rfl
theorem zin_X2 : Cond.initialized RX2 ∈ zTB := zTB_of (zmem1 (List.mem_of_getElem? (i := 5) rfl)) rfl
theorem zin_X0 : Cond.initialized RX0 ∈ zTB := zTB_of (zmem1 (List.mem_of_getElem? (i := 6) rfl)) rfl
theorem zin_X6 : Cond.initialized RX6 ∈ zTB := zTB_of (zmem1 (List.mem_of_getElem? (i := 12) rfl)) rfl
theorem zcl_L_7 : Cond.classLink "SpoonVotesLaw" 7 RX5 ∈ zTB := zTB_of (zmem1 (List.mem_of_getElem? (i := 15) rfl)) rfl
theorem zns_X5 : Cond.instantiable RX5 7 ∈ zTB := zTB_of (zmem1 (List.mem_of_getElem? (i := 16) rfl)) rfl
theorem zoL_X5 : Cond.methodLink RX5 1 Lib.objectInit ∈ zTB := zTB_of (zmem1 (List.mem_of_getElem? (i := 20) rfl)) rfl
theorem zcl_X5_7 : Cond.classLink RX5 7 RX4 ∈ zTB := zTB_of (zmem1 (List.mem_of_getElem? (i := 23) rfl)) rfl
theorem zns_X4 : Cond.instantiable RX4 3 ∈ zTB := zTB_of (zmem1 (List.mem_of_getElem? (i := 24) rfl)) rfl
theorem zoL_X4 : Cond.methodLink RX4 3 Lib.objectInit ∈ zTB := zTB_of (zmem1 (List.mem_of_getElem? (i := 28) rfl)) rfl
theorem zar_char : Cond.arrayClass .char ∈ zTB := zTB_of (zmem1 (List.mem_of_getElem? (i := 40) rfl)) rfl
theorem zar_int : Cond.arrayClass .int ∈ zTB := zTB_of (zmem1 (List.mem_of_getElem? (i := 41) rfl)) rfl
theorem zcl_X5_16 : Cond.classLink RX5 16 RX3 ∈ zTB := zTB_of (zmem1 (List.mem_of_getElem? (i := 42) rfl)) rfl
theorem zns_X3 : Cond.instantiable RX3 11 ∈ zTB := zTB_of (zmem1 (List.mem_of_getElem? (i := 43) rfl)) rfl
theorem zoL_X3 : Cond.methodLink RX3 3 Lib.objectInit ∈ zTB := zTB_of (zmem1 (List.mem_of_getElem? (i := 47) rfl)) rfl
theorem zcl_X5_26 : Cond.classLink RX5 26 RX1 ∈ zTB := zTB_of (zmem1 (List.mem_of_getElem? (i := 95) rfl)) rfl
theorem zns_X1 : Cond.instantiable RX1 3 ∈ zTB := zTB_of (zmem1 (List.mem_of_getElem? (i := 96) rfl)) rfl
theorem zoL_X1 : Cond.methodLink RX1 3 Lib.objectInit ∈ zTB := zTB_of (zmem1 (List.mem_of_getElem? (i := 100) rfl)) rfl
theorem zcl_X5_33 : Cond.classLink RX5 33 RX2 ∈ zTB := zTB_of (zmem1 (List.mem_of_getElem? (i := 111) rfl)) rfl
theorem zns_X2 : Cond.instantiable RX2 3 ∈ zTB := zTB_of (zmem1 (List.mem_of_getElem? (i := 112) rfl)) rfl
theorem zoL_X2 : Cond.methodLink RX2 3 Lib.objectInit ∈ zTB := zTB_of (zmem1 (List.mem_of_getElem? (i := 116) rfl)) rfl
theorem zcl_X5_40 : Cond.classLink RX5 40 RX0 ∈ zTB := zTB_of (zmem1 (List.mem_of_getElem? (i := 128) rfl)) rfl
theorem zns_X0 : Cond.instantiable RX0 2 ∈ zTB := zTB_of (zmem1 (List.mem_of_getElem? (i := 129) rfl)) rfl
theorem zoL_X0 : Cond.methodLink RX0 1 Lib.objectInit ∈ zTB := zTB_of (zmem1 (List.mem_of_getElem? (i := 133) rfl)) rfl
theorem zcl_X0_13 : Cond.classLink RX0 13 RX3 ∈ zTB := zTB_of (zmem1 (List.mem_of_getElem? (i := 137) rfl)) rfl
theorem zar_byte : Cond.arrayClass .byte ∈ zTB := zTB_of (zmem2 (List.mem_of_getElem? (i := 41) rfl)) rfl
theorem zcl_L_10 : Cond.classLink "SpoonVotesLaw" 10 RX6 ∈ zTB := zTB_of (zmem3 (List.mem_of_getElem? (i := 111) rfl)) rfl
theorem zns_X6 : Cond.instantiable RX6 16 ∈ zTB := zTB_of (zmem3 (List.mem_of_getElem? (i := 112) rfl)) rfl
theorem zoL_X6 : Cond.methodLink RX6 1 Lib.objectInit ∈ zTB := zTB_of (zmem3 (List.mem_of_getElem? (i := 116) rfl)) rfl
theorem zup_s (ct : zE) (k : Nat) (e : va_E) : zup ct k e k = e := if_pos rfl
theorem zup_n (ct : zE) {k i : Nat} (e : va_E) (h : i ≠ k) : zup ct k e i = ct i := if_neg h
theorem kN_zx (K : zK) (L : List Nat) : kN (zx K L) = kN K + L.length := rfl
theorem G_cast {K K2 : zK} {X X2 : zX} {nL pc : Nat} {lo : List (Nat × Value)} {st : List Value} {ct : zE} (e : K = K2) (e2 : X = X2) (k : G K2 X2 nL pc lo st ct) : G K X nL pc lo st ct := by
  rw [e, e2]
  exact k
/-- an array of n zeros -/
def z0 (c : ClassId) (n : Nat) : va_E := .inl (c, n, .inl (aI (fun _ => 0)))
set_option maxHeartbeats 4000000 in
theorem I_X4_init {K : zK} (hI : zInj K) (o : Nat) (ho : o < kN K) (ct : zE) (he : ct o = .inr (4, [.null, .null, .int (iI 0)])) : zN K yX4_init cX4_init 1 1 2 204 [.ref (kad K o)] ct (fun _ => True) (fun L u => L.length = 2 ∧ u o = .inr (4, [.ref (kad (zx K L) (kN K + 0)), .ref (kad (zx K L) (kN K + 1)), .int (iI 0)]) ∧ (u (kN K + 0) = z0 (kC K) 200 ∧ u (kN K + 1) = z0 (kI K) 4) ∧ ∀ i, i < kN K → i ≠ o → u i = ct i) := by
  refine zN_in hI (by decide +kernel) (Nat.le_of_ble_eq_true rfl) rfl (fun X O hnm hA _ hxc hxn hRc hRn hE => ?_)
  refine n_aload_n O dX4_init_0 rfl ?_
  refine r_objI O zoL_X4 zoI zoC (Nat.le_refl _) (by decide) dX4_init_1 ?_
  refine n_aload_n O dX4_init_4 rfl ?_
  refine r_sipush O (by decide +kernel) dX4_init_5 ?_
  refine r_newA (K := K) (X := X) (at9 := .char) (cid := kC K) (t0 := 1) rfl (by intro C h; cases h) (fun _ _ => rfl) 200 O hA zar_char (by decide) (Nat.le_of_ble_eq_true rfl) (by show xc X + 0 + 1 ≤ (xR X).cells; omega) (by show xn X + 0 + 200 ≤ (xR X).slots; omega) dX4_init_8 (fun q0 O0 => ?_)
  have hl0 : o < kN (zx K [q0]) := Nat.lt_of_lt_of_le ho (Nat.le_add_right _ _)
  have hk0 : kad (zx K [q0]) o = kad K o := (zx_old ho).trans rfl
  refine r_putF (a := o) (ty := .array .char) O0 hnm hl0 hk0 ((zup_n _ _ (Nat.ne_of_lt ho)).trans he) zCl4 fl_X4_9 (by decide) rfl (by decide +kernel) rfl rfl (Nat.le_of_ble_eq_true rfl) dX4_init_10 ?_
  refine n_aload_n O0 dX4_init_13 rfl ?_
  refine r_iconst O0 dX4_init_14 ?_
  refine r_newA (K := (zx K [q0])) (X := (zXg X 1 200)) (at9 := .int) (cid := kI K) (t0 := 0) rfl (by intro C h; cases h) (fun _ _ => rfl) 4 O0 hA zar_int (by decide) (Nat.le_of_ble_eq_true rfl) (by show xc X + 1 + 1 ≤ (xR X).cells; omega) (by show xn X + 200 + 4 ≤ (xR X).slots; omega) dX4_init_15 (fun q1 O1 => ?_)
  have hl1 : o < kN (zx (zx K [q0]) [q1]) := Nat.lt_of_lt_of_le hl0 (Nat.le_add_right _ _)
  have hk1 : kad (zx (zx K [q0]) [q1]) o = kad K o := (zx_old hl0).trans hk0
  refine r_putF (a := o) (ty := .array .int) O1 hnm hl1 hk1 ((zup_n _ _ (Nat.ne_of_lt hl0)).trans (zup_s _ _ _)) zCl4 fl_X4_15 (by decide) rfl (by decide +kernel) rfl rfl (Nat.le_of_ble_eq_true rfl) dX4_init_17 ?_
  refine G_cast (K2 := zx K [q0, q1]) (X2 := zXg X 2 204) (by simp only [zx_app, List.cons_append, List.nil_append]) (by simp only [zXg_app]) ?_
  have hlt : ∀ j, j < 2 → kN K + j ≠ o := fun j _ => by omega
  have ek0 : kad (zx K [q0, q1]) (kN K + 0) = q0 := by rw [zx_new (Nat.le_add_right _ _), Nat.add_sub_cancel_left]; rfl
  have ek1 : kad (zx K [q0, q1]) (kN K + 1) = q1 := by rw [zx_new (Nat.le_add_right _ _), Nat.add_sub_cancel_left]; rfl
  exact hE _ _ _ _ _ _ (Nat.le_refl _) (Nat.le_refl _) dX4_init_20 ⟨rfl, by rw [ek0, ek1]; exact zup_s _ _ _, ⟨by repeat (first | rw [zup_n _ _ (by (try simp only [kN_zx, List.length_cons, List.length_nil]); omega)] | exact zup_s _ _ _), by repeat (first | rw [zup_n _ _ (by (try simp only [kN_zx, List.length_cons, List.length_nil]); omega)] | exact zup_s _ _ _)⟩, fun i h0 h1 => by repeat (first | rw [zup_n _ _ (by (try simp only [kN_zx, List.length_cons, List.length_nil]); omega)] | exact zup_s _ _ _)⟩ (show zInj (zx K [q0, q1]) from by have h := O1; obtain ⟨-, -, -, -, -, -, -, -, -, h9, -⟩ := h; (try simp only [zx_app, List.cons_append, List.nil_append] at h9); exact h9)
set_option maxHeartbeats 4000000 in
theorem I_X3_init {K : zK} (hI : zInj K) (o : Nat) (ho : o < kN K) (ct : zE) (he : ct o = .inr (3, [.null, .null, .null, .null, .null, .int (iI 0), .int (iI 0), .int (iI 0), .int (iI 0), .int (iI 0), .int (iI 0)])) : zN K yX3_init cX3_init 1 1 5 35 [.ref (kad K o)] ct (fun _ => True) (fun L u => L.length = 5 ∧ u o = .inr (3, [.ref (kad (zx K L) (kN K + 0)), .ref (kad (zx K L) (kN K + 1)), .ref (kad (zx K L) (kN K + 2)), .ref (kad (zx K L) (kN K + 3)), .ref (kad (zx K L) (kN K + 4)), .int (iI 0), .int (iI 0), .int (iI 0), .int (iI 0), .int (iI 0), .int (iI 0)]) ∧ (u (kN K + 0) = z0 (kI K) 7 ∧ u (kN K + 1) = z0 (kI K) 7 ∧ u (kN K + 2) = z0 (kI K) 7 ∧ u (kN K + 3) = z0 (kI K) 7 ∧ u (kN K + 4) = z0 (kI K) 7) ∧ ∀ i, i < kN K → i ≠ o → u i = ct i) := by
  refine zN_in hI (by decide +kernel) (Nat.le_of_ble_eq_true rfl) rfl (fun X O hnm hA _ hxc hxn hRc hRn hE => ?_)
  refine n_aload_n O dX3_init_0 rfl ?_
  refine r_objI O zoL_X3 zoI zoC (Nat.le_refl _) (by decide) dX3_init_1 ?_
  refine n_aload_n O dX3_init_4 rfl ?_
  refine r_bipush O (by decide +kernel) dX3_init_5 ?_
  refine r_newA (K := K) (X := X) (at9 := .int) (cid := kI K) (t0 := 0) rfl (by intro C h; cases h) (fun _ _ => rfl) 7 O hA zar_int (by decide) (Nat.le_of_ble_eq_true rfl) (by show xc X + 0 + 1 ≤ (xR X).cells; omega) (by show xn X + 0 + 7 ≤ (xR X).slots; omega) dX3_init_7 (fun q0 O0 => ?_)
  have hl0 : o < kN (zx K [q0]) := Nat.lt_of_lt_of_le ho (Nat.le_add_right _ _)
  have hk0 : kad (zx K [q0]) o = kad K o := (zx_old ho).trans rfl
  refine r_putF (a := o) (ty := .array .int) O0 hnm hl0 hk0 ((zup_n _ _ (Nat.ne_of_lt ho)).trans he) zCl3 fl_X3_9 (by decide) rfl (by decide +kernel) rfl rfl (Nat.le_of_ble_eq_true rfl) dX3_init_9 ?_
  refine n_aload_n O0 dX3_init_12 rfl ?_
  refine r_bipush O0 (by decide +kernel) dX3_init_13 ?_
  refine r_newA (K := (zx K [q0])) (X := (zXg X 1 7)) (at9 := .int) (cid := kI K) (t0 := 0) rfl (by intro C h; cases h) (fun _ _ => rfl) 7 O0 hA zar_int (by decide) (Nat.le_of_ble_eq_true rfl) (by show xc X + 1 + 1 ≤ (xR X).cells; omega) (by show xn X + 7 + 7 ≤ (xR X).slots; omega) dX3_init_15 (fun q1 O1 => ?_)
  have hl1 : o < kN (zx (zx K [q0]) [q1]) := Nat.lt_of_lt_of_le hl0 (Nat.le_add_right _ _)
  have hk1 : kad (zx (zx K [q0]) [q1]) o = kad K o := (zx_old hl0).trans hk0
  refine r_putF (a := o) (ty := .array .int) O1 hnm hl1 hk1 ((zup_n _ _ (Nat.ne_of_lt hl0)).trans (zup_s _ _ _)) zCl3 fl_X3_15 (by decide) rfl (by decide +kernel) rfl rfl (Nat.le_of_ble_eq_true rfl) dX3_init_17 ?_
  refine n_aload_n O1 dX3_init_20 rfl ?_
  refine r_bipush O1 (by decide +kernel) dX3_init_21 ?_
  refine r_newA (K := (zx (zx K [q0]) [q1])) (X := (zXg (zXg X 1 7) 1 7)) (at9 := .int) (cid := kI K) (t0 := 0) rfl (by intro C h; cases h) (fun _ _ => rfl) 7 O1 hA zar_int (by decide) (Nat.le_of_ble_eq_true rfl) (by show xc X + 2 + 1 ≤ (xR X).cells; omega) (by show xn X + 14 + 7 ≤ (xR X).slots; omega) dX3_init_23 (fun q2 O2 => ?_)
  have hl2 : o < kN (zx (zx (zx K [q0]) [q1]) [q2]) := Nat.lt_of_lt_of_le hl1 (Nat.le_add_right _ _)
  have hk2 : kad (zx (zx (zx K [q0]) [q1]) [q2]) o = kad K o := (zx_old hl1).trans hk1
  refine r_putF (a := o) (ty := .array .int) O2 hnm hl2 hk2 ((zup_n _ _ (Nat.ne_of_lt hl1)).trans (zup_s _ _ _)) zCl3 fl_X3_18 (by decide) rfl (by decide +kernel) rfl rfl (Nat.le_of_ble_eq_true rfl) dX3_init_25 ?_
  refine n_aload_n O2 dX3_init_28 rfl ?_
  refine r_bipush O2 (by decide +kernel) dX3_init_29 ?_
  refine r_newA (K := (zx (zx (zx K [q0]) [q1]) [q2])) (X := (zXg (zXg (zXg X 1 7) 1 7) 1 7)) (at9 := .int) (cid := kI K) (t0 := 0) rfl (by intro C h; cases h) (fun _ _ => rfl) 7 O2 hA zar_int (by decide) (Nat.le_of_ble_eq_true rfl) (by show xc X + 3 + 1 ≤ (xR X).cells; omega) (by show xn X + 21 + 7 ≤ (xR X).slots; omega) dX3_init_31 (fun q3 O3 => ?_)
  have hl3 : o < kN (zx (zx (zx (zx K [q0]) [q1]) [q2]) [q3]) := Nat.lt_of_lt_of_le hl2 (Nat.le_add_right _ _)
  have hk3 : kad (zx (zx (zx (zx K [q0]) [q1]) [q2]) [q3]) o = kad K o := (zx_old hl2).trans hk2
  refine r_putF (a := o) (ty := .array .int) O3 hnm hl3 hk3 ((zup_n _ _ (Nat.ne_of_lt hl2)).trans (zup_s _ _ _)) zCl3 fl_X3_21 (by decide) rfl (by decide +kernel) rfl rfl (Nat.le_of_ble_eq_true rfl) dX3_init_33 ?_
  refine n_aload_n O3 dX3_init_36 rfl ?_
  refine r_bipush O3 (by decide +kernel) dX3_init_37 ?_
  refine r_newA (K := (zx (zx (zx (zx K [q0]) [q1]) [q2]) [q3])) (X := (zXg (zXg (zXg (zXg X 1 7) 1 7) 1 7) 1 7)) (at9 := .int) (cid := kI K) (t0 := 0) rfl (by intro C h; cases h) (fun _ _ => rfl) 7 O3 hA zar_int (by decide) (Nat.le_of_ble_eq_true rfl) (by show xc X + 4 + 1 ≤ (xR X).cells; omega) (by show xn X + 28 + 7 ≤ (xR X).slots; omega) dX3_init_39 (fun q4 O4 => ?_)
  have hl4 : o < kN (zx (zx (zx (zx (zx K [q0]) [q1]) [q2]) [q3]) [q4]) := Nat.lt_of_lt_of_le hl3 (Nat.le_add_right _ _)
  have hk4 : kad (zx (zx (zx (zx (zx K [q0]) [q1]) [q2]) [q3]) [q4]) o = kad K o := (zx_old hl3).trans hk3
  refine r_putF (a := o) (ty := .array .int) O4 hnm hl4 hk4 ((zup_n _ _ (Nat.ne_of_lt hl3)).trans (zup_s _ _ _)) zCl3 fl_X3_24 (by decide) rfl (by decide +kernel) rfl rfl (Nat.le_of_ble_eq_true rfl) dX3_init_41 ?_
  refine G_cast (K2 := zx K [q0, q1, q2, q3, q4]) (X2 := zXg X 5 35) (by simp only [zx_app, List.cons_append, List.nil_append]) (by simp only [zXg_app]) ?_
  have hlt : ∀ j, j < 5 → kN K + j ≠ o := fun j _ => by omega
  have ek0 : kad (zx K [q0, q1, q2, q3, q4]) (kN K + 0) = q0 := by rw [zx_new (Nat.le_add_right _ _), Nat.add_sub_cancel_left]; rfl
  have ek1 : kad (zx K [q0, q1, q2, q3, q4]) (kN K + 1) = q1 := by rw [zx_new (Nat.le_add_right _ _), Nat.add_sub_cancel_left]; rfl
  have ek2 : kad (zx K [q0, q1, q2, q3, q4]) (kN K + 2) = q2 := by rw [zx_new (Nat.le_add_right _ _), Nat.add_sub_cancel_left]; rfl
  have ek3 : kad (zx K [q0, q1, q2, q3, q4]) (kN K + 3) = q3 := by rw [zx_new (Nat.le_add_right _ _), Nat.add_sub_cancel_left]; rfl
  have ek4 : kad (zx K [q0, q1, q2, q3, q4]) (kN K + 4) = q4 := by rw [zx_new (Nat.le_add_right _ _), Nat.add_sub_cancel_left]; rfl
  exact hE _ _ _ _ _ _ (Nat.le_refl _) (Nat.le_refl _) dX3_init_44 ⟨rfl, by rw [ek0, ek1, ek2, ek3, ek4]; exact zup_s _ _ _, ⟨by repeat (first | rw [zup_n _ _ (by (try simp only [kN_zx, List.length_cons, List.length_nil]); omega)] | exact zup_s _ _ _), by repeat (first | rw [zup_n _ _ (by (try simp only [kN_zx, List.length_cons, List.length_nil]); omega)] | exact zup_s _ _ _), by repeat (first | rw [zup_n _ _ (by (try simp only [kN_zx, List.length_cons, List.length_nil]); omega)] | exact zup_s _ _ _), by repeat (first | rw [zup_n _ _ (by (try simp only [kN_zx, List.length_cons, List.length_nil]); omega)] | exact zup_s _ _ _), by repeat (first | rw [zup_n _ _ (by (try simp only [kN_zx, List.length_cons, List.length_nil]); omega)] | exact zup_s _ _ _)⟩, fun i h0 h1 => by repeat (first | rw [zup_n _ _ (by (try simp only [kN_zx, List.length_cons, List.length_nil]); omega)] | exact zup_s _ _ _)⟩ (show zInj (zx K [q0, q1, q2, q3, q4]) from by have h := O4; obtain ⟨-, -, -, -, -, -, -, -, -, h9, -⟩ := h; (try simp only [zx_app, List.cons_append, List.nil_append] at h9); exact h9)
set_option maxHeartbeats 4000000 in
theorem I_X1_init {K : zK} (hI : zInj K) (o : Nat) (ho : o < kN K) (ct : zE) (he : ct o = .inr (1, [.null, .int (iI 0), .int (iI 0)])) : zN K yX1_init cX1_init 1 1 1 7 [.ref (kad K o)] ct (fun _ => True) (fun L u => L.length = 1 ∧ u o = .inr (1, [.ref (kad (zx K L) (kN K + 0)), .int (iI 0), .int (iI 0)]) ∧ (u (kN K + 0) = z0 (kI K) 7) ∧ ∀ i, i < kN K → i ≠ o → u i = ct i) := by
  refine zN_in hI (by decide +kernel) (Nat.le_of_ble_eq_true rfl) rfl (fun X O hnm hA _ hxc hxn hRc hRn hE => ?_)
  refine n_aload_n O dX1_init_0 rfl ?_
  refine r_objI O zoL_X1 zoI zoC (Nat.le_refl _) (by decide) dX1_init_1 ?_
  refine n_aload_n O dX1_init_4 rfl ?_
  refine r_bipush O (by decide +kernel) dX1_init_5 ?_
  refine r_newA (K := K) (X := X) (at9 := .int) (cid := kI K) (t0 := 0) rfl (by intro C h; cases h) (fun _ _ => rfl) 7 O hA zar_int (by decide) (Nat.le_of_ble_eq_true rfl) (by show xc X + 0 + 1 ≤ (xR X).cells; omega) (by show xn X + 0 + 7 ≤ (xR X).slots; omega) dX1_init_7 (fun q0 O0 => ?_)
  have hl0 : o < kN (zx K [q0]) := Nat.lt_of_lt_of_le ho (Nat.le_add_right _ _)
  have hk0 : kad (zx K [q0]) o = kad K o := (zx_old ho).trans rfl
  refine r_putF (a := o) (ty := .array .int) O0 hnm hl0 hk0 ((zup_n _ _ (Nat.ne_of_lt ho)).trans he) zCl1 fl_X1_9 (by decide) rfl (by decide +kernel) rfl rfl (Nat.le_of_ble_eq_true rfl) dX1_init_9 ?_
  refine G_cast (K2 := zx K [q0]) (X2 := zXg X 1 7) (by simp only [zx_app, List.cons_append, List.nil_append]) (by simp only [zXg_app]) ?_
  have hlt : ∀ j, j < 1 → kN K + j ≠ o := fun j _ => by omega
  have ek0 : kad (zx K [q0]) (kN K + 0) = q0 := by rw [zx_new (Nat.le_add_right _ _), Nat.add_sub_cancel_left]; rfl
  exact hE _ _ _ _ _ _ (Nat.le_refl _) (Nat.le_refl _) dX1_init_12 ⟨rfl, by rw [ek0]; exact zup_s _ _ _, by repeat (first | rw [zup_n _ _ (by (try simp only [kN_zx, List.length_cons, List.length_nil]); omega)] | exact zup_s _ _ _), fun i h0 h1 => by repeat (first | rw [zup_n _ _ (by (try simp only [kN_zx, List.length_cons, List.length_nil]); omega)] | exact zup_s _ _ _)⟩ (show zInj (zx K [q0]) from by have h := O0; obtain ⟨-, -, -, -, -, -, -, -, -, h9, -⟩ := h; (try simp only [zx_app, List.cons_append, List.nil_append] at h9); exact h9)
set_option maxHeartbeats 4000000 in
theorem I_X2_init {K : zK} (hI : zInj K) (o : Nat) (ho : o < kN K) (ct : zE) (he : ct o = .inr (2, [.null, .null, .int (iI 0)])) : zN K yX2_init cX2_init 1 1 2 12 [.ref (kad K o)] ct (fun _ => True) (fun L u => L.length = 2 ∧ u o = .inr (2, [.ref (kad (zx K L) (kN K + 0)), .ref (kad (zx K L) (kN K + 1)), .int (iI 0)]) ∧ (u (kN K + 0) = z0 (kI K) 6 ∧ u (kN K + 1) = z0 (kI K) 6) ∧ ∀ i, i < kN K → i ≠ o → u i = ct i) := by
  refine zN_in hI (by decide +kernel) (Nat.le_of_ble_eq_true rfl) rfl (fun X O hnm hA _ hxc hxn hRc hRn hE => ?_)
  refine n_aload_n O dX2_init_0 rfl ?_
  refine r_objI O zoL_X2 zoI zoC (Nat.le_refl _) (by decide) dX2_init_1 ?_
  refine n_aload_n O dX2_init_4 rfl ?_
  refine r_bipush O (by decide +kernel) dX2_init_5 ?_
  refine r_newA (K := K) (X := X) (at9 := .int) (cid := kI K) (t0 := 0) rfl (by intro C h; cases h) (fun _ _ => rfl) 6 O hA zar_int (by decide) (Nat.le_of_ble_eq_true rfl) (by show xc X + 0 + 1 ≤ (xR X).cells; omega) (by show xn X + 0 + 6 ≤ (xR X).slots; omega) dX2_init_7 (fun q0 O0 => ?_)
  have hl0 : o < kN (zx K [q0]) := Nat.lt_of_lt_of_le ho (Nat.le_add_right _ _)
  have hk0 : kad (zx K [q0]) o = kad K o := (zx_old ho).trans rfl
  refine r_putF (a := o) (ty := .array .int) O0 hnm hl0 hk0 ((zup_n _ _ (Nat.ne_of_lt ho)).trans he) zCl2 fl_X2_9 (by decide) rfl (by decide +kernel) rfl rfl (Nat.le_of_ble_eq_true rfl) dX2_init_9 ?_
  refine n_aload_n O0 dX2_init_12 rfl ?_
  refine r_bipush O0 (by decide +kernel) dX2_init_13 ?_
  refine r_newA (K := (zx K [q0])) (X := (zXg X 1 6)) (at9 := .int) (cid := kI K) (t0 := 0) rfl (by intro C h; cases h) (fun _ _ => rfl) 6 O0 hA zar_int (by decide) (Nat.le_of_ble_eq_true rfl) (by show xc X + 1 + 1 ≤ (xR X).cells; omega) (by show xn X + 6 + 6 ≤ (xR X).slots; omega) dX2_init_15 (fun q1 O1 => ?_)
  have hl1 : o < kN (zx (zx K [q0]) [q1]) := Nat.lt_of_lt_of_le hl0 (Nat.le_add_right _ _)
  have hk1 : kad (zx (zx K [q0]) [q1]) o = kad K o := (zx_old hl0).trans hk0
  refine r_putF (a := o) (ty := .array .int) O1 hnm hl1 hk1 ((zup_n _ _ (Nat.ne_of_lt hl0)).trans (zup_s _ _ _)) zCl2 fl_X2_15 (by decide) rfl (by decide +kernel) rfl rfl (Nat.le_of_ble_eq_true rfl) dX2_init_17 ?_
  refine G_cast (K2 := zx K [q0, q1]) (X2 := zXg X 2 12) (by simp only [zx_app, List.cons_append, List.nil_append]) (by simp only [zXg_app]) ?_
  have hlt : ∀ j, j < 2 → kN K + j ≠ o := fun j _ => by omega
  have ek0 : kad (zx K [q0, q1]) (kN K + 0) = q0 := by rw [zx_new (Nat.le_add_right _ _), Nat.add_sub_cancel_left]; rfl
  have ek1 : kad (zx K [q0, q1]) (kN K + 1) = q1 := by rw [zx_new (Nat.le_add_right _ _), Nat.add_sub_cancel_left]; rfl
  exact hE _ _ _ _ _ _ (Nat.le_refl _) (Nat.le_refl _) dX2_init_20 ⟨rfl, by rw [ek0, ek1]; exact zup_s _ _ _, ⟨by repeat (first | rw [zup_n _ _ (by (try simp only [kN_zx, List.length_cons, List.length_nil]); omega)] | exact zup_s _ _ _), by repeat (first | rw [zup_n _ _ (by (try simp only [kN_zx, List.length_cons, List.length_nil]); omega)] | exact zup_s _ _ _)⟩, fun i h0 h1 => by repeat (first | rw [zup_n _ _ (by (try simp only [kN_zx, List.length_cons, List.length_nil]); omega)] | exact zup_s _ _ _)⟩ (show zInj (zx K [q0, q1]) from by have h := O1; obtain ⟨-, -, -, -, -, -, -, -, -, h9, -⟩ := h; (try simp only [zx_app, List.cons_append, List.nil_append] at h9); exact h9)
