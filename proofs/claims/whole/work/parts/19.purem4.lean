/-- the pile while i places of the sitting are laid on it -/
def keepJ (pa ss : Int → Int) (kn : Int) (p3 : Int → Int) (m i : Int) : Prop := ((0 ≤ i ∧ i ≤ 31) ∧ 0 ≤ m ∧ m ≤ 7) ∧ ((kn < 8 ∧ m = kn ∧ ∀ y : Int, 0 ≤ y → y < 31 * kn → p3 y = pa y) ∨ (kn = 8 ∧ m = 7 ∧ ∀ y : Int, 0 ≤ y → y < 217 → p3 y = pa (y + 31))) ∧ ∀ y : Int, 0 ≤ y → y < i → p3 (31 * m + y) = ss y
theorem keepJ_st {pa ss : Int → Int} {kn : Int} {p3 : Int → Int} {m i : Int} (h : keepJ pa ss kn p3 m i) (hi : i < 31) : keepJ pa ss kn (uI p3 (31 * m + i) (ss i)) m (i + 1) := by
  obtain ⟨⟨h1, h2⟩, h3, h4⟩ := h
  refine ⟨⟨by omega, h2⟩, ?_, fun y y0 y1 => ?_⟩
  · rcases h3 with ⟨a, b, d⟩ | ⟨a, b, d⟩
    · exact Or.inl ⟨a, b, fun y y0 y1 => by rw [uI_n _ _ (by omega)]; exact d y y0 y1⟩
    · exact Or.inr ⟨a, b, fun y y0 y1 => by rw [uI_n _ _ (by omega)]; exact d y y0 y1⟩
  · by_cases e : y = i
    · rw [e, uI_s]
    · rw [uI_n _ _ (by omega)]; exact h4 y y0 (by omega)
theorem keepJ_e {pa ss : Int → Int} {kn : Int} {p3 : Int → Int} {m i : Int} (h : keepJ pa ss kn p3 m i) (hi : 31 ≤ i) : keepR pa ss kn p3 (m + 1) := by
  obtain ⟨⟨h1, h2⟩, h3, h4⟩ := h
  rcases h3 with ⟨a, b, d⟩ | ⟨a, b, d⟩
  · subst b
    exact Or.inl ⟨a, rfl, fun y y0 y1 => h4 y y0 (by omega), d⟩
  · subst b
    exact Or.inr ⟨a, rfl, fun y y0 y1 => h4 y y0 (by omega), d⟩
theorem keepR_b {pa ss : Int → Int} {kn : Int} {p2 : Int → Int} {k2 : Int} (h : keepR pa ss kn p2 k2) (h0 : 0 ≤ kn) : 1 ≤ k2 ∧ k2 ≤ 8 := by
  rcases h with ⟨a, b, _⟩ | ⟨a, b, _⟩ <;> omega
theorem mR_cook {td ss : Int → Int} {v : SV} (h : mR td ss v) (h7 : qn v ≤ 7) (a : Int) : mR td (uI (uI ss 28 a) 29 9) (cookV v a) := mR_he (v := amV v a) (x := qhe v) (mR_am (x := qam v) h h7 a) h7 9
theorem mR_salt {td ss : Int → Int} {v : SV} (h : mR td ss v) (h7 : qn v ≤ 7) (h9 : qsa v < 9) : mR td (uI ss 30 (ss 30 + 1)) (saltV v) := by
  have e : ss 30 + 1 = min (qsa v + 1) 9 := by have := h.2.2.2.1; omega
  rw [e]
  exact mR_sa (v := v) (x := qsa v) h h7 _
theorem eqv_mayid (v : SV) : eqv (saV v (qsa v)) v := eqv_rf v
/-- hungers behind a day of fasting, in the reference's cells -/
def fastJ (td ss : Int → Int) (v : SV) (s1 : Int → Int) (k : Nat) : Prop := (k : Int) ≤ qn v ∧ (∀ y : Int, (y < 14 ∨ 14 + (k : Int) ≤ y) → s1 y = ss y) ∧ ∀ y : Int, 0 ≤ y → y < (k : Int) → s1 (14 + y) = min (qhu v y + qfa v) 60
theorem fastJ_st {td ss : Int → Int} {v : SV} {s1 : Int → Int} {k : Nat} (h : fastJ td ss v s1 k) (hr : mR td ss v) (hk : (k : Int) < qn v) {x : Int} (hx : x = min (s1 (14 + (k : Int)) + td 2) 60) : fastJ td ss v (uI s1 (14 + (k : Int)) x) (k + 1) := by
  obtain ⟨h1, h2, h3⟩ := h
  have r6 := hr.2.2.2.2.2.1
  have rm := (hr.2.2.2.2.2.2 (k : Int) (by omega) hk).2.2.1
  have e := h2 (14 + (k : Int)) (Or.inr (by omega))
  refine ⟨by omega, fun y hy => ?_, fun y y0 y1 => ?_⟩
  · rw [uI_n _ _ (by omega)]; exact h2 y (by omega)
  · by_cases q : y = (k : Int)
    · rw [q, uI_s, hx, e, rm, r6]
    · rw [uI_n _ _ (by omega)]; exact h3 y y0 (by omega)
theorem fastJ_e {td ss : Int → Int} {v : SV} {s1 : Int → Int} {k : Nat} (h : fastJ td ss v s1 k) (hr : mR td ss v) (h7 : qn v ≤ 7) (hk : qn v ≤ (k : Int)) : mR td (uI s1 29 0) (fastV v) := by
  obtain ⟨h1, h2, h3⟩ := h
  obtain ⟨a1, a2, a3, a4, a5, a6, hm⟩ := hr
  have e : ∀ y : Int, y ≠ 29 → (y < 14 ∨ 14 + (k : Int) ≤ y) → uI s1 29 0 y = ss y := fun y y1 y2 => by rw [uI_n _ _ y1]; exact h2 y y2
  refine ⟨a1, (e _ (by decide) (by omega)).trans a2, uI_s _ _ _, (e _ (by decide) (by omega)).trans a4, a5, a6, fun i i0 i1 => ?_⟩
  have i2 : i < qn v := i1
  obtain ⟨x1, x2, x3, x4, x5⟩ := hm i i0 i2
  refine ⟨(e _ (by omega) (by omega)).trans x1, (e _ (by omega) (by omega)).trans x2, ?_, x4, (e _ (by omega) (by omega)).trans x5⟩
  rw [uI_n _ _ (by omega), h3 i i0 (by omega)]
  show _ = fastN v (qn v).toNat i
  rw [fastN_eq, if_pos (by omega)]
theorem fastJ_b {td ss : Int → Int} {v : SV} {s1 : Int → Int} {k : Nat} (h : fastJ td ss v s1 k) (hr : mR td ss v) (hv : okV v) (hk : (k : Int) < qn v) : 0 ≤ s1 (14 + (k : Int)) ∧ s1 (14 + (k : Int)) ≤ 60 := by
  rw [h.2.1 (14 + (k : Int)) (Or.inr (by omega)), (hr.2.2.2.2.2.2 (k : Int) (by omega) hk).2.2.1]
  exact (hv.2.2.2.2.2.2 (k : Int) (by omega) hk).2.2.1
theorem sum_hu {td ss : Int → Int} {v : SV} (h : mR td ss v) (hn : 0 ≤ qn v) : sumI (fun i => ss (14 + i)) (qn v).toNat = sumI (qhu v) (qn v).toNat := sumI_eq _ (fun i i0 i1 => (h.2.2.2.2.2.2 i i0 (by omega)).2.2.1)
theorem sum_ea {td ss : Int → Int} {v : SV} (h : mR td ss v) (hn : 0 ≤ qn v) : sumI (fun i => ss (21 + i)) (qn v).toNat = sumI (qea v) (qn v).toNat := sumI_eq _ (fun i i0 i1 => (h.2.2.2.2.2.2 i i0 (by omega)).2.2.2.2)
/-- how far the trial of a set has come -/
def passJ (v : SV) (s : Nat) (td : Int → Int) (k : Nat) (s1 : Int → Int) (lb fd wh : Int) : Prop := (fd = -4 ∧ wh = -4 ∧ mR td s1 (roundsQ v s k) ∧ (∀ m : Nat, m < k → qam (roundsQ v s m) ≠ 0) ∧ ∀ q : Nat, k = q + 1 → lb = (eatQ (roundsQ v s q) s (qn v).toNat).2.2) ∨ (fd ≠ -4 ∧ untilQ v s fd ∧ whoP v s fd wh)
theorem passJ_e {v : SV} {s : Nat} {td : Int → Int} {k : Nat} {s1 : Int → Int} {lb fd wh : Int} (h : passJ v s td k s1 lb fd wh) (h2 : qro v < (k : Int) ∨ fd ≠ -4) : untilQ v s fd ∧ whoP v s fd wh := by
  rcases h with ⟨a, b, d, e, f⟩ | ⟨_, h⟩
  · refine ⟨Or.inr ⟨fun m hm => e m (by omega), a⟩, fun _ => b, fun q hq => by omega⟩
  · exact h
theorem passJ_f {v : SV} {s : Nat} {td : Int → Int} {k : Nat} {s1 s2 : Int → Int} {lb l2 fd wh : Int} (h : passJ v s td k s1 lb (-4) wh) (hk : (k : Int) ≤ qro v) (h0 : qam (roundsQ v s k) = 0) (hf : fd = (k : Int)) {w2 : Int} (hw : (k = 0 ∧ w2 = -4) ∨ (k ≠ 0 ∧ w2 = lb)) : passJ v s td (k + 1) s2 l2 fd w2 := by
  rcases h with ⟨a, b, d, e, f⟩ | ⟨h, _⟩
  · refine Or.inr ⟨by omega, Or.inl ⟨k, hk, h0, e, hf⟩, fun h => ?_, fun q hq => ?_⟩
    · rcases hw with h | h <;> omega
    · rcases hw with h | h
      · omega
      · rw [h.2]; exact f q (by omega)
  · exact absurd rfl h
theorem passJ_n {v : SV} {s : Nat} {td : Int → Int} {k : Nat} {s1 s2 : Int → Int} {lb l2 wh : Int} (h : passJ v s td k s1 lb (-4) wh) (h0 : qam (roundsQ v s k) ≠ 0) (h2 : mR td s2 (roundsQ v s (k + 1))) (hl : l2 = (eatQ (roundsQ v s k) s (qn (roundsQ v s k)).toNat).2.2) : passJ v s td (k + 1) s2 l2 (-4) (-4) := by
  rcases h with ⟨a, b, d, e, f⟩ | ⟨h, _⟩
  · refine Or.inl ⟨rfl, rfl, h2, fun m hm => ?_, fun q hq => ?_⟩
    · by_cases e2 : m = k
      · rw [e2]; exact h0
      · exact e m (by omega)
    · have e2 : q = k := by omega
      rw [e2, hl, roundsQ_n]
  · exact absurd rfl h
theorem passJ_r {v : SV} {s : Nat} {td : Int → Int} {k : Nat} {s1 : Int → Int} {lb wh : Int} (h : passJ v s td k s1 lb (-4) wh) : mR td s1 (roundsQ v s k) := by
  rcases h with ⟨_, _, d, _⟩ | ⟨h, _⟩
  · exact d
  · exact absurd rfl h
/-- looking downwards: the least more of salt by which it is not passed -/
def spoilJ (v : SV) (m fd : Int) : Prop := (fd = -4 ∧ ∀ j : Int, m < j → j ≤ 9 - qsa v → passI (saV v (qsa v + j)) = 1) ∨ ((m < fd ∧ fd ≤ 9 - qsa v) ∧ passI (saV v (qsa v + fd)) = 0 ∧ ∀ j : Int, m < j → j < fd → passI (saV v (qsa v + j)) = 1)
theorem spoilJ_e {v : SV} {m fd : Int} (h : spoilJ v m fd) (hm : m = -1) : spoilP v fd := by
  rcases h with ⟨a, b⟩ | ⟨⟨a, a2⟩, b, d⟩
  · exact Or.inr ⟨fun k hk => b (k : Int) (by omega) (by omega), a⟩
  · refine Or.inl ⟨fd.toNat, by omega, ?_, fun k hk => d (k : Int) (by omega) (by omega), by omega⟩
    rw [Int.toNat_of_nonneg (by omega)]
    exact b
theorem spoilJ_y {v : SV} {m fd : Int} (h : spoilJ v m fd) (hp : passI (saV v (qsa v + m)) = 1) : spoilJ v (m - 1) fd := by
  rcases h with ⟨a, b⟩ | ⟨⟨a, a2⟩, b, d⟩
  · exact Or.inl ⟨a, fun j j0 j1 => by by_cases e : j = m; (rw [e]; exact hp); exact b j (by omega) j1⟩
  · exact Or.inr ⟨⟨by omega, a2⟩, b, fun j j0 j1 => by by_cases e : j = m; (rw [e]; exact hp); exact d j (by omega) j1⟩
theorem spoilJ_n {v : SV} {m : Int} (hp : passI (saV v (qsa v + m)) = 0) (hm : m ≤ 9 - qsa v) : spoilJ v (m - 1) m := Or.inr ⟨⟨by omega, hm⟩, hp, fun j j0 j1 => by omega⟩
def waitsJ (v : SV) (m fd : Int) : Prop := (fd = -4 ∧ ∀ j : Int, m < j → j ≤ 9 → passI (heV v (max (qhe v - j) 0)) = 0) ∨ ((m < fd ∧ fd ≤ 9) ∧ passI (heV v (max (qhe v - fd) 0)) = 1 ∧ ∀ j : Int, m < j → j < fd → passI (heV v (max (qhe v - j) 0)) = 0)
theorem waitsJ_e {v : SV} {m fd : Int} (h : waitsJ v m fd) (hm : m = -1) : waitsP v fd := by
  rcases h with ⟨a, b⟩ | ⟨⟨a, a2⟩, b, d⟩
  · exact Or.inr ⟨fun k hk => b (k : Int) (by omega) (by omega), a⟩
  · refine Or.inl ⟨fd.toNat, by omega, ?_, fun k hk => d (k : Int) (by omega) (by omega), by omega⟩
    rw [Int.toNat_of_nonneg (by omega)]
    exact b
theorem waitsJ_n {v : SV} {m fd : Int} (h : waitsJ v m fd) (hp : passI (heV v (max (qhe v - m) 0)) = 0) : waitsJ v (m - 1) fd := by
  rcases h with ⟨a, b⟩ | ⟨⟨a, a2⟩, b, d⟩
  · exact Or.inl ⟨a, fun j j0 j1 => by by_cases e : j = m; (rw [e]; exact hp); exact b j (by omega) j1⟩
  · exact Or.inr ⟨⟨by omega, a2⟩, b, fun j j0 j1 => by by_cases e : j = m; (rw [e]; exact hp); exact d j (by omega) j1⟩
theorem waitsJ_y {v : SV} {m : Int} (hp : passI (heV v (max (qhe v - m) 0)) = 1) (hm : m ≤ 9) : waitsJ v (m - 1) m := Or.inr ⟨⟨by omega, hm⟩, hp, fun j j0 j1 => by omega⟩
theorem fewN_st (L : Nat → Int) (k : Nat) {x : Int} (h : (x = (k : Int) ∧ L k = 1 ∧ (fewN L k = -4 ∨ popN k < popN (fewN L k).toNat)) ∨ (x = fewN L k ∧ ¬ (L k = 1 ∧ (fewN L k = -4 ∨ popN k < popN (fewN L k).toNat)))) : x = fewN L (k + 1) := by
  unfold fewN
  rcases h with ⟨a, b⟩ | ⟨a, b⟩
  · rw [if_pos b]; exact a
  · rw [if_neg b]; exact a
