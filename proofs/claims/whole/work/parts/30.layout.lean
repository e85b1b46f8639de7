/-! THE CLASS' CONSTRUCTOR -/
def jsp (k : Nat) : Nat := if k < 4 then k else if k < 11 then k + 12 else if k < 13 then k + 60 else if k < 25 then k - 9 else if k < 73 then k - 2 else k
def jsZ : SV := (0, 0, 0, 0, 0, 0, (fun _ => 0), (fun _ => 0), (fun _ => 0), (fun _ => 0), (fun _ => 0))
def jsC0 : CS := ((fun _ => jsZ), ((fun _ => 0), (fun _ => 0), 0), ((fun _ => 0), 0, 0), ((fun _ => 0), (fun _ => 0), 0), ((fun q => q.toNat + 2), 0), ((fun q => q.toNat + 10), 0))
def jsP5 (K : zK) (aK aV : Nat) (U : State) : Prop := jsS K aK aV U ∧ jsP0 U ∧ va_Nw (.methodLinkNest RX5 9 yX4_init RX5) U ∧ va_Nw (.methodLinkNest RX5 18 yX3_init RX5) U ∧ va_Nw (.methodLinkNest RX5 28 yX1_init RX5) U ∧ va_Nw (.methodLinkNest RX5 35 yX2_init RX5) U
theorem jsP5_pk (K : zK) (aK aV : Nat) : zPk K (jsP5 K aK aV) := by
  refine ⟨fun a U g mk h => ?_, fun s U H locs h hS hU hW => ?_⟩
  · obtain ⟨h1, h2, h3, h4, h5, h6⟩ := h
    exact ⟨(jsS_pk K aK aV).1 a U g mk h1, jsP0_bl a U g mk h2, va_Nw.same rfl rfl h3, va_Nw.same rfl rfl h4, va_Nw.same rfl rfl h5, va_Nw.same rfl rfl h6⟩
  · obtain ⟨h1, h2, h3, h4, h5, h6⟩ := h
    exact ⟨(jsS_pk K aK aV).2 s U H locs h1 hS hU hW, jsP0_pk h2 hW, va_Nw.warmM hW h3, va_Nw.warmM hW h4, va_Nw.warmM hW h5, va_Nw.warmM hW h6⟩
/-- the start of a game -/
def jsI (c : CS) : Prop := c.1 0 = fiV jsZ ∧ c.2.1.2.2 = 0 ∧ c.2.2.2.1.2.2 = 0 ∧ c.2.2.2.2.1.2 = 0 ∧ c.2.2.2.2.2.2 = 0
theorem jbT_of {K : zK} {q : Nat} {L : List Nat} {u ct : zE} (h : L.length = 2 ∧ u (kN K) = .inr (4, [.ref (kad (zx (zx K [q]) L) (kN (zx K [q]) + 0)), .ref (kad (zx (zx K [q]) L) (kN (zx K [q]) + 1)), .int (iI 0)]) ∧ (u (kN (zx K [q]) + 0) = z0 (kC (zx K [q])) 200 ∧ u (kN (zx K [q]) + 1) = z0 (kI (zx K [q])) 4) ∧ ∀ i, i < kN (zx K [q]) → i ≠ kN K → u i = zup ct (kN K) (.inr (4, [.null, .null, .int (iI 0)])) i) : L.length = 2 ∧ (∀ a : Nat, a < 1 + 2 → u (kN K + a) = jbT (zx K ([q] ++ L)) (kN K) a) ∧ ∀ i : Nat, i < kN K → u i = ct i := by
  obtain ⟨p1, p2, ⟨h0, h1⟩, p3⟩ := h
  rw [zx_app] at p2
  refine ⟨p1, fun a ha => ?_, fun i hi => by rw [p3 i (Nat.lt_of_lt_of_le hi (Nat.le_add_right _ _)) (Nat.ne_of_lt hi), zup_n _ _ (Nat.ne_of_lt hi)]⟩
  match a, ha with
  | 0, _ => exact p2
  | 1, _ => exact h0
  | 2, _ => exact h1
theorem jbS_of {K : zK} {q : Nat} {L : List Nat} {u ct : zE} (h : L.length = 5 ∧ u (kN K) = .inr (3, [.ref (kad (zx (zx K [q]) L) (kN (zx K [q]) + 0)), .ref (kad (zx (zx K [q]) L) (kN (zx K [q]) + 1)), .ref (kad (zx (zx K [q]) L) (kN (zx K [q]) + 2)), .ref (kad (zx (zx K [q]) L) (kN (zx K [q]) + 3)), .ref (kad (zx (zx K [q]) L) (kN (zx K [q]) + 4)), .int (iI 0), .int (iI 0), .int (iI 0), .int (iI 0), .int (iI 0), .int (iI 0)]) ∧ (u (kN (zx K [q]) + 0) = z0 (kI (zx K [q])) 7 ∧ u (kN (zx K [q]) + 1) = z0 (kI (zx K [q])) 7 ∧ u (kN (zx K [q]) + 2) = z0 (kI (zx K [q])) 7 ∧ u (kN (zx K [q]) + 3) = z0 (kI (zx K [q])) 7 ∧ u (kN (zx K [q]) + 4) = z0 (kI (zx K [q])) 7) ∧ ∀ i, i < kN (zx K [q]) → i ≠ kN K → u i = zup ct (kN K) (.inr (3, [.null, .null, .null, .null, .null, .int (iI 0), .int (iI 0), .int (iI 0), .int (iI 0), .int (iI 0), .int (iI 0)])) i) : L.length = 5 ∧ (∀ a : Nat, a < 1 + 5 → u (kN K + a) = jsit (zx K ([q] ++ L)) (kN K) a) ∧ ∀ i : Nat, i < kN K → u i = ct i := by
  obtain ⟨p1, p2, ⟨h0, h1, h2, h3, h4⟩, p3⟩ := h
  rw [zx_app] at p2
  refine ⟨p1, fun a ha => ?_, fun i hi => by rw [p3 i (Nat.lt_of_lt_of_le hi (Nat.le_add_right _ _)) (Nat.ne_of_lt hi), zup_n _ _ (Nat.ne_of_lt hi)]⟩
  match a, ha with
  | 0, _ => exact p2
  | 1, _ => exact h0
  | 2, _ => exact h1
  | 3, _ => exact h2
  | 4, _ => exact h3
  | 5, _ => exact h4
theorem jb1_of {K : zK} {q : Nat} {L : List Nat} {u ct : zE} (h : L.length = 1 ∧ u (kN K) = .inr (1, [.ref (kad (zx (zx K [q]) L) (kN (zx K [q]) + 0)), .int (iI 0), .int (iI 0)]) ∧ (u (kN (zx K [q]) + 0) = z0 (kI (zx K [q])) 7) ∧ ∀ i, i < kN (zx K [q]) → i ≠ kN K → u i = zup ct (kN K) (.inr (1, [.null, .int (iI 0), .int (iI 0)])) i) : L.length = 1 ∧ (∀ a : Nat, a < 1 + 1 → u (kN K + a) = jb1 (zx K ([q] ++ L)) (kN K) a) ∧ ∀ i : Nat, i < kN K → u i = ct i := by
  obtain ⟨p1, p2, h0, p3⟩ := h
  rw [zx_app] at p2
  refine ⟨p1, fun a ha => ?_, fun i hi => by rw [p3 i (Nat.lt_of_lt_of_le hi (Nat.le_add_right _ _)) (Nat.ne_of_lt hi), zup_n _ _ (Nat.ne_of_lt hi)]⟩
  match a, ha with
  | 0, _ => exact p2
  | 1, _ => exact h0
theorem jb2_of {K : zK} {q : Nat} {L : List Nat} {u ct : zE} (h : L.length = 2 ∧ u (kN K) = .inr (2, [.ref (kad (zx (zx K [q]) L) (kN (zx K [q]) + 0)), .ref (kad (zx (zx K [q]) L) (kN (zx K [q]) + 1)), .int (iI 0)]) ∧ (u (kN (zx K [q]) + 0) = z0 (kI (zx K [q])) 6 ∧ u (kN (zx K [q]) + 1) = z0 (kI (zx K [q])) 6) ∧ ∀ i, i < kN (zx K [q]) → i ≠ kN K → u i = zup ct (kN K) (.inr (2, [.null, .null, .int (iI 0)])) i) : L.length = 2 ∧ (∀ a : Nat, a < 1 + 2 → u (kN K + a) = jb2 (zx K ([q] ++ L)) (kN K) a) ∧ ∀ i : Nat, i < kN K → u i = ct i := by
  obtain ⟨p1, p2, ⟨h0, h1⟩, p3⟩ := h
  rw [zx_app] at p2
  refine ⟨p1, fun a ha => ?_, fun i hi => by rw [p3 i (Nat.lt_of_lt_of_le hi (Nat.le_add_right _ _)) (Nat.ne_of_lt hi), zup_n _ _ (Nat.ne_of_lt hi)]⟩
  match a, ha with
  | 0, _ => exact p2
  | 1, _ => exact h0
  | 2, _ => exact h1
theorem jsp_lt : ∀ k : Nat, k < 85 → jsp k < 85 := by decide +kernel
theorem jsp_inj : ∀ i : Nat, i < 85 → ∀ j : Nat, j < 85 → jsp i = jsp j → i = j := by decide +kernel
theorem jsp_s : ∀ j : Nat, j < 12 → ∀ a : Nat, a < 6 → jsp (6 * j + 13 + a) = jsp (6 * j + 13) + a := by decide +kernel
def jsL84 (K7 : zK) : List Nat := (List.range 84).map (fun i => kad K7 (jsp (i + 1)))
theorem jsL84_kad {K K7 : zK} (h1 : kN K = 1) (h0 : kad K 0 = kad K7 0) {i : Nat} (hi : i < 85) : kad (zx K (jsL84 K7)) i = kad K7 (jsp i) := by
  by_cases hz : i = 0
  · subst hz
    rw [zx_old (by omega)]
    exact h0
  · rw [zx_new (by omega), h1]
    unfold jsL84
    rw [List.getD_eq_getElem?_getD, List.getElem?_map, List.getElem?_range (by omega)]
    show kad K7 (jsp (i - 1 + 1)) = _
    rw [show i - 1 + 1 = i by omega]
theorem jsL84_len (K7 : zK) : (jsL84 K7).length = 84 := by
  unfold jsL84
  rw [List.length_map, List.length_range]
def jsB7 : List (Nat × Nat × jB) := [(1, 3, jbT), (4, 6, jsit), (10, 6, jsit), (16, 2, jb1), (18, 3, jb2), (21, 50, jb0 8), (71, 14, jb0 2)]
set_option maxHeartbeats 4000000 in
/-- the cells in the order of their making are the cells of the class' layout -/
theorem js_same {K K7 : zK} {u : zE} (h1 : kN K = 1) (h0 : kad K 0 = kad K7 0) (eI : kI K7 = kI K) (eC : kC K7 = kC K) (eS : kS K7 = kS K) (hW : jsW K7 u 85 [some 1, some 4, some 10, some 16, some 18, some 21, some 71] jsB7) (i : Nat) (hi : i < 85) : zSame (u (jsp i)) (layC (zx K (jsL84 K7)) jsC0 i) := by
  obtain ⟨k1, k2, -, k4⟩ := hW
  have kk : ∀ i : Nat, i < 85 → kad (zx K (jsL84 K7)) i = kad K7 (jsp i) := fun i hi => jsL84_kad h1 h0 hi
  have b1 : ∀ a : Nat, a < 3 → u (1 + a) = jbT K7 1 a := (k4 (1, 3, jbT) (by simp [jsB7])).2.2.2
  have b2 : ∀ a : Nat, a < 6 → u (4 + a) = jsit K7 4 a := (k4 (4, 6, jsit) (by simp [jsB7])).2.2.2
  have b3 : ∀ a : Nat, a < 6 → u (10 + a) = jsit K7 10 a := (k4 (10, 6, jsit) (by simp [jsB7])).2.2.2
  have b4 : ∀ a : Nat, a < 2 → u (16 + a) = jb1 K7 16 a := (k4 (16, 2, jb1) (by simp [jsB7])).2.2.2
  have b5 : ∀ a : Nat, a < 3 → u (18 + a) = jb2 K7 18 a := (k4 (18, 3, jb2) (by simp [jsB7])).2.2.2
  have b6 : ∀ a : Nat, a < 50 → u (21 + a) = jb0 8 K7 21 a := (k4 (21, 50, jb0 8) (by simp [jsB7])).2.2.2
  have b7 : ∀ a : Nat, a < 14 → u (71 + a) = jb0 2 K7 71 a := (k4 (71, 14, jb0 2) (by simp [jsB7])).2.2.2
  have eI2 : kI (zx K (jsL84 K7)) = kI K7 := eI.symm
  have eC2 : kC (zx K (jsL84 K7)) = kC K7 := eC.symm
  have eS2 : kS (zx K (jsL84 K7)) = kS K7 := eS.symm
  by_cases hs : i < 13
  · match i, hs with
    | 0, _ =>
      refine Or.inl ?_
      show u 0 = .inr (5, [.ref (kad (zx K (jsL84 K7)) 1), .ref (kad (zx K (jsL84 K7)) 13), .ref (kad (zx K (jsL84 K7)) 19), .ref (kad (zx K (jsL84 K7)) 4), .ref (kad (zx K (jsL84 K7)) 6), .ref (kad (zx K (jsL84 K7)) 9), .ref (kad (zx K (jsL84 K7)) 11)])
      rw [k2, kk 1 (by omega), kk 13 (by omega), kk 19 (by omega), kk 4 (by omega), kk 6 (by omega), kk 9 (by omega), kk 11 (by omega)]
      rfl
    | 1, _ =>
      refine Or.inl ((b1 0 (by decide)).trans ?_)
      show jbT K7 1 0 = .inr (4, [.ref (kad (zx K (jsL84 K7)) 2), .ref (kad (zx K (jsL84 K7)) 3), .int (iI 0)])
      rw [kk 2 (by omega), kk 3 (by omega)]
      rfl
    | 2, _ =>
      refine Or.inl ((b1 1 (by decide)).trans ?_)
      show z0 (kC K7) 200 = z0 (kC (zx K (jsL84 K7))) 200
      rw [eC2]
    | 3, _ =>
      refine Or.inl ((b1 2 (by decide)).trans ?_)
      show z0 (kI K7) 4 = z0 (kI (zx K (jsL84 K7))) 4
      rw [eI2]
    | 4, _ =>
      refine Or.inl ((b4 0 (by decide)).trans ?_)
      show jb1 K7 16 0 = .inr (1, [.ref (kad (zx K (jsL84 K7)) 5), .int (iI 0), .int (iI 0)])
      rw [kk 5 (by omega)]
      rfl
    | 5, _ =>
      refine Or.inl ((b4 1 (by decide)).trans ?_)
      show z0 (kI K7) 7 = z0 (kI (zx K (jsL84 K7))) 7
      rw [eI2]
    | 6, _ =>
      refine Or.inl ((b5 0 (by decide)).trans ?_)
      show jb2 K7 18 0 = .inr (2, [.ref (kad (zx K (jsL84 K7)) 7), .ref (kad (zx K (jsL84 K7)) 8), .int (iI 0)])
      rw [kk 7 (by omega), kk 8 (by omega)]
      rfl
    | 7, _ =>
      refine Or.inl ((b5 1 (by decide)).trans ?_)
      show z0 (kI K7) 6 = z0 (kI (zx K (jsL84 K7))) 6
      rw [eI2]
    | 8, _ =>
      refine Or.inl ((b5 2 (by decide)).trans ?_)
      show z0 (kI K7) 6 = z0 (kI (zx K (jsL84 K7))) 6
      rw [eI2]
    | 9, _ =>
      refine Or.inl ((b6 0 (by decide)).trans ?_)
      show jb0 8 K7 21 0 = .inr (0, [.ref (kad (zx K (jsL84 K7)) 10), .int (iI 0)])
      rw [kk 10 (by omega)]
      rfl
    | 10, _ =>
      refine Or.inr ⟨kS K7, 8, _, rI (zx K (jsL84 K7)) (pileC jsC0.2.2.2.2.1.1), b6 1 (by decide), ?_, ?_⟩
      · show Sum.inl (kS (zx K (jsL84 K7)), 8, _) = _
        rw [eS2]
      · intro q hq
        show (if q < 8 then some (kad K7 (21 + 2 + 6 * q)) else none) = some (kad (zx K (jsL84 K7)) (6 * ((q : Int).toNat + 2) + 13))
        rw [if_pos hq, kk _ (by omega)]
        congr 2
        have hj := (by decide +kernel : ∀ q : Nat, q < 8 → jsp (6 * (q + 2) + 13) = 21 + 2 + 6 * q) q hq
        rw [Int.toNat_natCast, hj]
    | 11, _ =>
      refine Or.inl ((b7 0 (by decide)).trans ?_)
      show jb0 2 K7 71 0 = .inr (0, [.ref (kad (zx K (jsL84 K7)) 12), .int (iI 0)])
      rw [kk 12 (by omega)]
      rfl
    | 12, _ =>
      refine Or.inr ⟨kS K7, 2, _, rI (zx K (jsL84 K7)) (pileC jsC0.2.2.2.2.2.1), b7 1 (by decide), ?_, ?_⟩
      · show Sum.inl (kS (zx K (jsL84 K7)), 2, _) = _
        rw [eS2]
      · intro q hq
        show (if q < 2 then some (kad K7 (71 + 2 + 6 * q)) else none) = some (kad (zx K (jsL84 K7)) (6 * ((q : Int).toNat + 10) + 13))
        rw [if_pos hq, kk _ (by omega)]
        congr 2
        have hj := (by decide +kernel : ∀ q : Nat, q < 2 → jsp (6 * (q + 10) + 13) = 71 + 2 + 6 * q) q hq
        rw [Int.toNat_natCast, hj]
  · obtain ⟨j, a, rfl, hj, ha⟩ : ∃ j a : Nat, i = 6 * j + 13 + a ∧ j < 12 ∧ a < 6 := ⟨(i - 13) / 6, (i - 13) % 6, by omega, by omega, by omega⟩
    have hu : u (jsp (6 * j + 13) + a) = jsit K7 (jsp (6 * j + 13)) a := by
      by_cases hj0 : j = 0
      · subst hj0
        exact b2 a ha
      · by_cases hj1 : j = 1
        · subst hj1
          exact b3 a ha
        · by_cases hj2 : j < 10
          · have e : jsp (6 * j + 13) = 21 + 2 + 6 * (j - 2) := (by decide +kernel : ∀ j : Nat, j < 10 → 2 ≤ j → jsp (6 * j + 13) = 21 + 2 + 6 * (j - 2)) j hj2 (by omega)
            have h9 := b6 (6 * (j - 2) + a + 2) (by show _ < 50; omega)
            have e2 : (6 * (j - 2) + a) / 6 = j - 2 := by omega
            have e3 : (6 * (j - 2) + a) % 6 = a := by omega
            have h10 : jb0 8 K7 21 (6 * (j - 2) + a + 2) = jsit K7 (21 + 2 + 6 * ((6 * (j - 2) + a) / 6)) ((6 * (j - 2) + a) % 6) := rfl
            rw [e2, e3] at h10
            rw [e, ← h10, ← h9]
            congr 1
            show 21 + 2 + 6 * (j - 2) + a = 21 + (6 * (j - 2) + a + 2)
            omega
          · have e : jsp (6 * j + 13) = 71 + 2 + 6 * (j - 10) := (by decide +kernel : ∀ j : Nat, j < 12 → 10 ≤ j → jsp (6 * j + 13) = 71 + 2 + 6 * (j - 10)) j hj (by omega)
            have h9 := b7 (6 * (j - 10) + a + 2) (by show _ < 14; omega)
            have e2 : (6 * (j - 10) + a) / 6 = j - 10 := by omega
            have e3 : (6 * (j - 10) + a) % 6 = a := by omega
            have h10 : jb0 2 K7 71 (6 * (j - 10) + a + 2) = jsit K7 (71 + 2 + 6 * ((6 * (j - 10) + a) / 6)) ((6 * (j - 10) + a) % 6) := rfl
            rw [e2, e3] at h10
            rw [e, ← h10, ← h9]
            congr 1
            show 71 + 2 + 6 * (j - 10) + a = 71 + (6 * (j - 10) + a + 2)
            omega
    refine Or.inl ?_
    rw [jsp_s j hj a ha, hu, show 6 * j + 13 + a = (6 * j + a) + 13 by omega, lay_k, show (6 * j + a) / 6 = j by omega, show (6 * j + a) % 6 = a by omega]
    have kj : ∀ t : Nat, t < 6 → kad K7 (jsp (6 * j + 13) + t) = kad (zx K (jsL84 K7)) (6 * j + 13 + t) := fun t ht => by rw [kk _ (by omega), jsp_s j hj t ht]
    match a, ha with
    | 0, _ =>
      show (Sum.inr (3, [.ref (kad K7 (jsp (6 * j + 13) + 1)), .ref (kad K7 (jsp (6 * j + 13) + 2)), .ref (kad K7 (jsp (6 * j + 13) + 3)), .ref (kad K7 (jsp (6 * j + 13) + 4)), .ref (kad K7 (jsp (6 * j + 13) + 5)), .int (iI 0), .int (iI 0), .int (iI 0), .int (iI 0), .int (iI 0), .int (iI 0)]) : va_E) = _
      rw [kj 1 (by omega), kj 2 (by omega), kj 3 (by omega), kj 4 (by omega), kj 5 (by omega)]
      rfl
    | 1, _ => show z0 (kI K7) 7 = z0 (kI (zx K (jsL84 K7))) 7; rw [eI2]
    | 2, _ => show z0 (kI K7) 7 = z0 (kI (zx K (jsL84 K7))) 7; rw [eI2]
    | 3, _ => show z0 (kI K7) 7 = z0 (kI (zx K (jsL84 K7))) 7; rw [eI2]
    | 4, _ => show z0 (kI K7) 7 = z0 (kI (zx K (jsL84 K7))) 7; rw [eI2]
    | 5, _ => show z0 (kI K7) 7 = z0 (kI (zx K (jsL84 K7))) 7; rw [eI2]
theorem js_inj {K K7 : zK} (h1 : kN K = 1) (h0 : kad K 0 = kad K7 0) (eA : kA K7 = kA K) (h7 : kN K7 = 85) (hI : zInj K7) : zInj (zx K (jsL84 K7)) := by
  have hN : kN (zx K (jsL84 K7)) = 85 := by rw [kN_zx, h1, jsL84_len]
  refine ⟨fun i j hi hj e => ?_, fun i hi => ?_⟩
  · rw [hN] at hi hj
    rw [jsL84_kad h1 h0 hi, jsL84_kad h1 h0 hj] at e
    exact jsp_inj i hi j hj (hI.1 _ _ (by rw [h7]; exact jsp_lt i hi) (by rw [h7]; exact jsp_lt j hj) e)
  · rw [hN] at hi
    rw [jsL84_kad h1 h0 hi]
    have h9 := hI.2 (jsp i) (by rw [h7]; exact jsp_lt i hi)
    rw [eA] at h9
    exact h9
theorem jsC_ok {lt nu : Int → Int} {v : SV} (hnu : okN nu) : okC (wT (wS jsC0 0 (fiV v)) (lt, nu, 0)) := by
  have z0 : (0 : Int) ≤ 0 := by decide
  have z8 : (0 : Int) ≤ 8 := by decide
  have z2 : (0 : Int) ≤ 2 := by decide
  have z6 : (0 : Int) ≤ 6 := by decide
  have z200 : (0 : Int) ≤ 200 := by decide
  refine ⟨fi_okV v, ⟨⟨z0, z200⟩, fun i h0 h1 => absurd (show i < 0 from h1) (by omega)⟩, hnu, ⟨⟨z0, z6⟩, fun k h0 h1 => absurd (show k < 0 from h1) (by omega)⟩, ⟨⟨z0, z8⟩, fun i h0 h1 => ?_, fun i j h0 h1 h2 h3 e => ?_⟩, ⟨⟨z0, z2⟩, fun i h0 h1 => ?_, fun i j h0 h1 h2 h3 e => ?_⟩⟩
  · show (2 : Int) ≤ ((i.toNat + 2 : Nat) : Int) ∧ ((i.toNat + 2 : Nat) : Int) < 2 + 8
    omega
  · have e : i.toNat + 2 = j.toNat + 2 := e
    omega
  · show (10 : Int) ≤ ((i.toNat + 10 : Nat) : Int) ∧ ((i.toNat + 10 : Nat) : Int) < 10 + 2
    omega
  · have e : i.toNat + 10 = j.toNat + 10 := e
    omega
