theorem eatN_scr0 {v : SV} (hv : okV v) (h0 : qam v = 0) (k : Nat) (hk : (k : Int) ≤ qn v) : (eatN v k).2 = -4 ∧ qam (eatN v k).1 = 0 := by
  induction k with
  | zero => exact ⟨rfl, h0⟩
  | succ k ih =>
    obtain ⟨h1, h2⟩ := ih (by omega)
    have hs := shareV_b (okV_eatN hv k (by omega)) (i := (k : Int)) (by omega) (by rw [eatN_n]; omega)
    refine ⟨?_, ?_⟩
    · show (if 0 < shareV (eatN v k).1 (k : Int) ∧ shareV (eatN v k).1 (k : Int) = qam (eatN v k).1 then (k : Int) else (eatN v k).2) = -4
      rw [if_neg (by omega)]
      exact h1
    · show qam (eatN v k).1 - shareV (eatN v k).1 (k : Int) = 0
      omega
theorem eatN_scr1 {v : SV} (hv : okV v) (k : Nat) (hk : (k : Int) ≤ qn v) (h : qam (eatN v k).1 ≠ 0) : (eatN v k).2 = -4 := by
  induction k with
  | zero => rfl
  | succ k ih =>
    have hs := shareV_b (okV_eatN hv k (by omega)) (i := (k : Int)) (by omega) (by rw [eatN_n]; omega)
    have h1 : qam (eatN v k).1 - shareV (eatN v k).1 (k : Int) ≠ 0 := h
    show (if 0 < shareV (eatN v k).1 (k : Int) ∧ shareV (eatN v k).1 (k : Int) = qam (eatN v k).1 then (k : Int) else (eatN v k).2) = -4
    rw [if_neg (by omega)]
    exact ih (by omega) (by omega)
theorem roundsV_scr {v : SV} (hv : okV v) (k : Nat) (h : ∀ m : Nat, m ≤ k → qam (roundsV v m).1 ≠ 0) : (roundsV v k).2 = -4 := by
  induction k with
  | zero => rfl
  | succ k ih =>
    have h1 := ih (fun m hm => h m (by omega))
    have hok := okV_roundsV hv k
    have h2 : (roundV (roundsV v k).1).2 = -4 := eatN_scr1 hok _ (by have := hok.1; omega) (h (k + 1) (Nat.le_refl _))
    show (if (roundV (roundsV v k).1).2 = -4 then (roundsV v k).2 else (roundV (roundsV v k).1).2) = -4
    rw [if_pos h2]
    exact h1
theorem roundsV_aft {v : SV} (hv : okV v) {k : Nat} (h : qam (roundsV v k).1 = 0) (j : Nat) (hj : k ≤ j) : (roundsV v j).2 = (roundsV v k).2 ∧ qam (roundsV v j).1 = 0 := by
  induction j with
  | zero => have e : k = 0 := by omega
            subst e; exact ⟨rfl, h⟩
  | succ j ih =>
    by_cases e : k = j + 1
    · subst e; exact ⟨rfl, h⟩
    · obtain ⟨h1, h2⟩ := ih (by omega)
      have hok := okV_roundsV hv j
      have h3 := eatN_scr0 hok h2 (qn (roundsV v j).1).toNat (by have := hok.1; omega)
      refine ⟨?_, h3.2⟩
      show (if (roundV (roundsV v j).1).2 = -4 then (roundsV v j).2 else (roundV (roundsV v j).1).2) = _
      rw [if_pos (show (roundV (roundsV v j).1).2 = -4 from h3.1)]
      exact h1
/-- who scraped last, of the reference: behind the round in which the pot was empty first -/
def whoP (v : SV) (s : Nat) (z w : Int) : Prop := (z ≤ 0 → w = -4) ∧ ∀ k : Nat, z = (k : Int) + 1 → w = (eatQ (roundsQ v s k) s (qn v).toNat).2.2
theorem who_all {v : SV} (hv : okV v) {z w : Int} (hz : untilQ v (2 ^ (qn v).toNat - 1) z) (hw : whoP v (2 ^ (qn v).toNat - 1) z w) : (z = -4 → (roundsV v (qro v).toNat).2 = -4) ∧ (z ≠ -4 → (roundsV v (qro v).toNat).2 = w) := by
  have hro := hv.2.2.2.2.1
  rcases hz with ⟨k, h1, h2, h3, h4⟩ | ⟨h1, h2⟩
  · refine ⟨fun h => by omega, fun _ => ?_⟩
    have ha := roundsV_aft hv (k := k) (by rw [← roundsQ_all hv]; exact h2) (qro v).toNat (by omega)
    rw [ha.1]
    by_cases e : k = 0
    · subst e
      exact (hw.1 (by omega)).symm
    · obtain ⟨q, rfl⟩ : ∃ q, k = q + 1 := ⟨k - 1, by omega⟩
      have hl := hw.2 q (by omega)
      have hs := roundsV_scr hv q (fun m hm => by rw [← roundsQ_all hv]; exact h3 m (by omega))
      have hok := okV_roundsV hv q
      have hn := roundsV_n v q
      have he : (roundV (roundsV v q).1).2 = w := by
        rw [hl, roundsQ_all hv]
        have h5 := (eatQ_all (v := (roundsV v q).1) (by have := hok.1; omega) (qn (roundsV v q).1).toNat (by have := hok.1; omega)).2
        rw [hn] at h5
        rw [h5]
        unfold roundV
        rw [hn]
      show (if (roundV (roundsV v q).1).2 = -4 then (roundsV v q).2 else (roundV (roundsV v q).1).2) = w
      by_cases e2 : (roundV (roundsV v q).1).2 = -4
      · rw [if_pos e2, hs, ← he, e2]
      · rw [if_neg e2, he]
  · refine ⟨fun _ => roundsV_scr hv _ (fun m hm => by rw [← roundsQ_all hv]; exact h1 m (by omega)), fun h => absurd h2 h⟩
theorem mR_sa {td ss : Int → Int} {v : SV} {x : Int} (h : mR td ss (saV v x)) (h7 : qn v ≤ 7) (y : Int) : mR td (uI ss 30 y) (saV v y) := by
  obtain ⟨a1, a2, a3, a4, a5, a6, hm⟩ := h
  exact ⟨a1, by rw [uI_n _ _ (by omega)]; exact a2, by rw [uI_n _ _ (by omega)]; exact a3, uI_s _ _ _, a5, a6, fun i i0 i1 => by have i2 : i < qn v := i1; rw [uI_n _ _ (by omega), uI_n _ _ (by omega), uI_n _ _ (by omega), uI_n _ _ (by omega)]; exact hm i i0 i1⟩
theorem mR_he {td ss : Int → Int} {v : SV} {x : Int} (h : mR td ss (heV v x)) (h7 : qn v ≤ 7) (y : Int) : mR td (uI ss 29 y) (heV v y) := by
  obtain ⟨a1, a2, a3, a4, a5, a6, hm⟩ := h
  exact ⟨a1, by rw [uI_n _ _ (by omega)]; exact a2, uI_s _ _ _, by rw [uI_n _ _ (by omega)]; exact a4, a5, a6, fun i i0 i1 => by have i2 : i < qn v := i1; rw [uI_n _ _ (by omega), uI_n _ _ (by omega), uI_n _ _ (by omega), uI_n _ _ (by omega)]; exact hm i i0 i1⟩
def amV (v : SV) (x : Int) : SV := (qn v, x, qhe v, qsa v, qro v, qfa v, qkd v, qsp v, qhu v, qbe v, qea v)
theorem mR_am {td ss : Int → Int} {v : SV} {x : Int} (h : mR td ss (amV v x)) (h7 : qn v ≤ 7) (y : Int) : mR td (uI ss 28 y) (amV v y) := by
  obtain ⟨a1, a2, a3, a4, a5, a6, hm⟩ := h
  exact ⟨a1, uI_s _ _ _, by rw [uI_n _ _ (by omega)]; exact a3, by rw [uI_n _ _ (by omega)]; exact a4, a5, a6, fun i i0 i1 => by have i2 : i < qn v := i1; rw [uI_n _ _ (by omega), uI_n _ _ (by omega), uI_n _ _ (by omega), uI_n _ _ (by omega)]; exact hm i i0 i1⟩
theorem okV_amV {v : SV} (h : okV v) {x : Int} (h0 : 0 ≤ x) (h1 : x ≤ 99) : okV (amV v x) := ⟨h.1, ⟨h0, h1⟩, h.2.2⟩
theorem reachA_am (v : SV) (x : Int) (k : Nat) : reachA (amV v x) k = reachA v k := by
  have e : ∀ i m, reachN (amV v x) i m = reachN v i m := by
    intro i m
    induction m with
    | zero => rfl
    | succ m ih => show reachN (amV v x) i m + min _ (qhu v i - reachN (amV v x) i m) = _; rw [ih]; rfl
  induction k with
  | zero => rfl
  | succ k ih => show reachA (amV v x) k + reachN (amV v x) (k : Int) (qro v).toNat = _; rw [ih, e]; rfl
theorem passI_am (v : SV) (x : Int) : (passI (amV v x) = 1 ∧ x ≤ reachA v (qn v).toNat) ∨ (passI (amV v x) = 0 ∧ reachA v (qn v).toNat < x) := by
  have e : passI (amV v x) = if x ≤ reachA (amV v x) (qn v).toNat then 1 else 0 := rfl
  rw [e, reachA_am]
  split <;> omega
theorem mR_exch {td ss : Int → Int} {v : SV} {i k : Int} (h : mR td ss v) (h7 : qn v ≤ 7) (h0 : 0 ≤ i) (h1 : i < qn v) (h2 : 0 ≤ k) (h3 : k < qn v) : mR td (uI (uI (uI (uI ss i (ss k)) (7 + i) (uI ss i (ss k) (7 + k))) k (ss i)) (7 + k) (ss (7 + i))) (exchV v i k) := by
  obtain ⟨a1, a2, a3, a4, a5, a6, hm⟩ := h
  obtain ⟨x1, x2, x3, x4, x5⟩ := hm i h0 h1
  obtain ⟨z1, z2, z3, z4, z5⟩ := hm k h2 h3
  have e : ∀ y : Int, 14 ≤ y → uI (uI (uI (uI ss i (ss k)) (7 + i) (uI ss i (ss k) (7 + k))) k (ss i)) (7 + k) (ss (7 + i)) y = ss y := fun y hy => by rw [uI_n _ _ (by omega), uI_n _ _ (by omega), uI_n _ _ (by omega), uI_n _ _ (by omega)]
  refine ⟨a1, (e _ (by decide)).trans a2, (e _ (by decide)).trans a3, (e _ (by decide)).trans a4, a5, a6, fun y y0 y1 => ?_⟩
  have y2 : y < qn v := y1
  obtain ⟨w1, w2, w3, w4, w5⟩ := hm y y0 y2
  refine ⟨?_, ?_, (e _ (by omega)).trans w3, w4, (e _ (by omega)).trans w5⟩
  · rw [uI_n _ _ (by omega)]
    show uI (uI (uI ss i (ss k)) (7 + i) _) k (ss i) y = uI (uI (qkd v) i (qkd v k)) k (qkd v i) y
    by_cases e1 : y = k
    · rw [e1, uI_s, uI_s, x1]
    · rw [uI_n _ _ e1, uI_n _ _ e1, uI_n _ _ (by omega)]
      by_cases e2 : y = i
      · rw [e2, uI_s, uI_s, z1]
      · rw [uI_n _ _ e2, uI_n _ _ e2, w1]
  · show uI (uI (uI (uI ss i (ss k)) (7 + i) (uI ss i (ss k) (7 + k))) k (ss i)) (7 + k) (ss (7 + i)) (7 + y) = uI (uI (qsp v) i (qsp v k)) k (qsp v i) y
    by_cases e1 : y = k
    · rw [e1, uI_s, uI_s, x2]
    · rw [uI_n _ _ (by omega), uI_n _ _ e1, uI_n _ _ (by omega)]
      by_cases e2 : y = i
      · rw [e2, uI_s, uI_s, uI_n _ _ (by omega), z2]
      · rw [uI_n _ _ (by omega), uI_n _ _ e2, uI_n _ _ (by omega), w2]
theorem eqv_exch2 {v : SV} {i k : Int} : eqv (exchV (exchV v i k) i k) v := by
  refine ⟨rfl, rfl, rfl, rfl, rfl, rfl, fun y y0 y1 => ?_⟩
  have key : ∀ f : Int → Int, uI (uI (uI (uI f i (f k)) k (f i)) i (uI (uI f i (f k)) k (f i) k)) k (uI (uI f i (f k)) k (f i) i) y = f y := by
    intro f
    unfold uI
    by_cases e1 : y = k
    · by_cases e2 : i = k
      · simp [e1, e2]
      · simp [e1, e2]
    · by_cases e2 : y = i
      · subst e2
        simp [e1]
      · simp [e1, e2]
  exact ⟨key _, key _, rfl, rfl, rfl⟩
theorem okI_it {lt : Int → Int} {le p n : Int} : okI lt le p n ↔ p < le ∧ itP lt le p n := Iff.rfl
/-- the pile of sittings past: slice i holds v -/
def sliceR (td pa : Int → Int) (i : Int) (v : SV) : Prop := mR td (fun y => pa (31 * i + y)) v
