def ltM (tx : Int → Int) (ty p : Int) : Int := if p < ty then tx p else -1
theorem ltM_c {tx : Int → Int} {ty p : Int} (h : okT tx ty) (h0 : 0 ≤ p) : (ltM tx ty p = atT tx ty p ∧ p < ty ∧ 32 ≤ atT tx ty p ∧ atT tx ty p ≤ 126) ∨ (ltM tx ty p = -1 ∧ atT tx ty p = 0) := by
  unfold ltM atT
  by_cases e : p < ty
  · rw [if_pos e, if_pos ⟨h0, e⟩]
    have := h.2 p h0 e
    exact Or.inl ⟨rfl, e, this.1, this.2⟩
  · rw [if_neg e, if_neg (fun q => e q.2)]
    exact Or.inr ⟨rfl, rfl⟩
def zR (bg : Int → Int) : Prop := ∀ i : Int, 0 ≤ i → i < 7 → bg (21 + i) = 0
/-- one number read: figures, the sign behind them, the range -/
def numP (tx : Int → Int) (ty p low high e : Int) : Prop := figsT tx ty p ≠ 0 ∧ atT tx ty (p + figsT tx ty p) = e ∧ low ≤ valT tx ty p ∧ valT tx ty p ≤ high
theorem plT_suc {lt : Int → Int} {le : Int} {many : Nat} {p q : Int} {k : Nat} (hq : plT lt le many p k = q) (h1 : q ≠ -1) (h2 : figsT lt le q ≠ 0) (h3 : atT lt le (q + figsT lt le q) = endT many k) : plT lt le many p (k + 1) = q + figsT lt le q + 1 := by
  unfold plT
  rw [hq, if_neg]
  rintro (h | h | h)
  · exact h1 h
  · exact h2 h
  · exact h h3
theorem plT_stp {lt : Int → Int} {le : Int} {many : Nat} {p q : Int} {k : Nat} (hq : plT lt le many p k = q) (h : plT lt le many p (k + 1) ≠ -1) : figsT lt le q ≠ 0 ∧ atT lt le (q + figsT lt le q) = endT many k := by
  unfold plT at h
  rw [hq] at h
  by_cases e : q = -1 ∨ figsT lt le q = 0 ∨ atT lt le (q + figsT lt le q) ≠ endT many k
  · rw [if_pos e] at h
    exact absurd rfl h
  · refine ⟨fun h2 => e (Or.inr (Or.inl h2)), ?_⟩
    by_cases h3 : atT lt le (q + figsT lt le q) = endT many k
    · exact h3
    · exact absurd (Or.inr (Or.inr h3)) e
/-- the item at p is so, but for its place -/
def itP (lt : Int → Int) (le p n : Int) : Prop := manyT (atT lt le p) ≠ 0 ∧ endI lt le p ≠ -1 ∧ tOk (atT lt le p) n (nuT lt le p 0) (nuT lt le p 1) (nuT lt le p 2) (nuT lt le p 3)
theorem it_no {lt : Int → Int} {le p n q lo hi e : Int} {k : Nat} (hq : plT lt le (manyT (atT lt le p)) p k = q) (hk : k < manyT (atT lt le p)) (he : e = endT (manyT (atT lt le p)) k) (h : ¬ numP lt le q lo hi e) (hr : tOk (atT lt le p) n (nuT lt le p 0) (nuT lt le p 1) (nuT lt le p 2) (nuT lt le p 3) → lo ≤ nuT lt le p k ∧ nuT lt le p k ≤ hi) : ¬ itP lt le p n := by
  rintro ⟨h1, h2, h3⟩
  have h4 : plT lt le (manyT (atT lt le p)) p (k + 1) ≠ -1 := fun h5 => h2 (plT_m1 h5 (by omega))
  have h6 := plT_stp hq h4
  have h7 := hr h3
  unfold nuT at h7
  rw [hq] at h7
  exact h ⟨h6.1, by rw [he]; exact h6.2, h7.1, h7.2⟩
theorem nu_at {lt : Int → Int} {le p q : Int} {k : Nat} (hq : plT lt le (manyT (atT lt le p)) p k = q) : nuT lt le p k = valT lt le q := by unfold nuT; rw [hq]
theorem mR_clear {td ss : Int → Int} (h0 : td 0 = 0) (h1 : ss 28 = 30) (h2 : ss 29 = 4) (h3 : ss 30 = 1) (h4 : td 1 = 5) (h5 : td 2 = 6) (w : SV) : mR td ss (clearV w) := ⟨h0, h1, h2, h3, h4, h5, fun i i0 i1 => absurd (show i < 0 from i1) (by omega)⟩
theorem mR_mem {dr bg : Int → Int} {v : SV} (h : mR dr bg v) (hz : zR bg) (hn : 0 ≤ qn v ∧ qn v ≤ 6) (k s hh b : Int) : mR (uI (uI dr (3 + qn v) b) 0 (qn v + 1)) (uI (uI (uI bg (qn v) k) (7 + qn v) s) (14 + qn v) hh) (memV v k s hh b) ∧ zR (uI (uI (uI bg (qn v) k) (7 + qn v) s) (14 + qn v) hh) := by
  obtain ⟨a1, a2, a3, a4, a5, a6, hm⟩ := h
  refine ⟨⟨uI_s _ _ _, ?_, ?_, ?_, ?_, ?_, fun i i0 i1 => ?_⟩, fun i i0 i1 => ?_⟩
  · rw [uI_n _ _ (by omega), uI_n _ _ (by omega), uI_n _ _ (by omega)]; exact a2
  · rw [uI_n _ _ (by omega), uI_n _ _ (by omega), uI_n _ _ (by omega)]; exact a3
  · rw [uI_n _ _ (by omega), uI_n _ _ (by omega), uI_n _ _ (by omega)]; exact a4
  · rw [uI_n _ _ (by omega), uI_n _ _ (by omega)]; exact a5
  · rw [uI_n _ _ (by omega), uI_n _ _ (by omega)]; exact a6
  · have i2 : i < qn v + 1 := i1
    show uI (uI (uI bg (qn v) k) (7 + qn v) s) (14 + qn v) hh i = uI (qkd v) (qn v) k i ∧ uI (uI (uI bg (qn v) k) (7 + qn v) s) (14 + qn v) hh (7 + i) = uI (qsp v) (qn v) s i ∧ uI (uI (uI bg (qn v) k) (7 + qn v) s) (14 + qn v) hh (14 + i) = uI (qhu v) (qn v) hh i ∧ uI (uI dr (3 + qn v) b) 0 (qn v + 1) (3 + i) = uI (qbe v) (qn v) b i ∧ uI (uI (uI bg (qn v) k) (7 + qn v) s) (14 + qn v) hh (21 + i) = uI (qea v) (qn v) 0 i
    by_cases e : i = qn v
    · subst e
      refine ⟨?_, ?_, ?_, ?_, ?_⟩
      · rw [uI_n _ _ (by omega), uI_n _ _ (by omega), uI_s, uI_s]
      · rw [uI_n _ _ (by omega), uI_s, uI_s]
      · rw [uI_s, uI_s]
      · rw [uI_n _ _ (by omega), uI_s, uI_s]
      · rw [uI_n _ _ (by omega), uI_n _ _ (by omega), uI_n _ _ (by omega), uI_s]; exact hz _ i0 (by omega)
    · obtain ⟨y1, y2, y3, y4, y5⟩ := hm i i0 (by omega)
      refine ⟨?_, ?_, ?_, ?_, ?_⟩
      · rw [uI_n _ _ (by omega), uI_n _ _ (by omega), uI_n _ _ (by omega), uI_n _ _ e]; exact y1
      · rw [uI_n _ _ (by omega), uI_n _ _ (by omega), uI_n _ _ (by omega), uI_n _ _ e]; exact y2
      · rw [uI_n _ _ (by omega), uI_n _ _ (by omega), uI_n _ _ (by omega), uI_n _ _ e]; exact y3
      · rw [uI_n _ _ (by omega), uI_n _ _ (by omega), uI_n _ _ e]; exact y4
      · rw [uI_n _ _ (by omega), uI_n _ _ (by omega), uI_n _ _ (by omega), uI_n _ _ e]; exact y5
  · rw [uI_n _ _ (by omega), uI_n _ _ (by omega), uI_n _ _ (by omega)]; exact hz i i0 i1
theorem mR_pot {dr bg : Int → Int} {v : SV} (h : mR dr bg v) (h7 : qn v ≤ 7) (a b d : Int) : mR dr (uI (uI (uI bg 28 a) 29 b) 30 d) (qn v, a, b, d, qro v, qfa v, qkd v, qsp v, qhu v, qbe v, qea v) := by
  obtain ⟨a1, a2, a3, a4, a5, a6, hm⟩ := h
  refine ⟨a1, by rw [uI_n _ _ (by omega), uI_n _ _ (by omega), uI_s]; rfl, by rw [uI_n _ _ (by omega), uI_s]; rfl, by rw [uI_s]; rfl, a5, a6, fun i i0 i1 => ?_⟩
  have i2 : i < qn v := i1
  have e : ∀ y : Int, y < 28 → uI (uI (uI bg 28 a) 29 b) 30 d y = bg y := fun y hy => by rw [uI_n _ _ (by omega), uI_n _ _ (by omega), uI_n _ _ (by omega)]
  rw [e _ (by omega), e _ (by omega), e _ (by omega), e _ (by omega)]
  exact hm i i0 i2
theorem zR_pot {bg : Int → Int} (h : zR bg) (a b d : Int) : zR (uI (uI (uI bg 28 a) 29 b) 30 d) := fun i i0 i1 => by
  rw [uI_n _ _ (by omega), uI_n _ _ (by omega), uI_n _ _ (by omega)]; exact h i i0 i1
theorem mR_ro {dr bg : Int → Int} {v : SV} (h : mR dr bg v) (a : Int) : mR (uI dr 1 a) bg (qn v, qam v, qhe v, qsa v, a, qfa v, qkd v, qsp v, qhu v, qbe v, qea v) := by
  obtain ⟨a1, a2, a3, a4, a5, a6, hm⟩ := h
  exact ⟨by rw [uI_n _ _ (by omega)]; exact a1, a2, a3, a4, uI_s _ _ _, by rw [uI_n _ _ (by omega)]; exact a6, fun i i0 i1 => by rw [uI_n _ _ (by omega)]; exact hm i i0 i1⟩
theorem mR_fa {dr bg : Int → Int} {v : SV} (h : mR dr bg v) (a : Int) : mR (uI dr 2 a) bg (qn v, qam v, qhe v, qsa v, qro v, a, qkd v, qsp v, qhu v, qbe v, qea v) := by
  obtain ⟨a1, a2, a3, a4, a5, a6, hm⟩ := h
  exact ⟨by rw [uI_n _ _ (by omega)]; exact a1, a2, a3, a4, by rw [uI_n _ _ (by omega)]; exact a5, uI_s _ _ _, fun i i0 i1 => by rw [uI_n _ _ (by omega)]; exact hm i i0 i1⟩
/-- the sitting put on the pile of those past -/
def keepR (pa ss : Int → Int) (kn : Int) (p2 : Int → Int) (k2 : Int) : Prop := (kn < 8 ∧ k2 = kn + 1 ∧ (∀ i : Int, 0 ≤ i → i < 31 → p2 (31 * kn + i) = ss i) ∧ ∀ y : Int, 0 ≤ y → y < 31 * kn → p2 y = pa y) ∨ (kn = 8 ∧ k2 = 8 ∧ (∀ i : Int, 0 ≤ i → i < 31 → p2 (217 + i) = ss i) ∧ ∀ y : Int, 0 ≤ y → y < 217 → p2 y = pa (y + 31))
theorem spoonV_he {sa h k sp be : Int} : spoonV sa (max h 0) k sp be = spoonV sa h k sp be := by
  have hb := hotV_b k
  unfold spoonV
  by_cases h0 : be < sa ∨ hotV k < h
  · rw [if_pos h0, if_pos (by omega)]
  · rw [if_neg h0, if_neg (by omega)]
/-- what member i would eat in round k of a pot that is never empty -/
def incV (v : SV) (k : Nat) (i : Int) : Int := min (spoonV (qsa v) (qhe v - (k : Int)) (qkd v i) (qsp v i) (qbe v i)) (qhu v i - reachN v i k)
theorem incV_b {v : SV} (hv : okV v) {i : Int} (h0 : 0 ≤ i) (h1 : i < qn v) (k : Nat) : 0 ≤ incV v k i := by
  have hi := hv.2.2.2.2.2.2 i h0 h1
  have hb := spoonV_b (sa := qsa v) (he := qhe v - (k : Int)) (k := qkd v i) (be := qbe v i) hi.2.1
  have hr := reachN_b hi.2.1 hi.2.2.1.1 k
  unfold incV
  omega
theorem setSum_add (f g : Int → Int) (s : Nat) (m : Nat) : setSum (fun i => f i + g i) s m = setSum f s m + setSum g s m := by
  induction m with
  | zero => rfl
  | succ m ih =>
    unfold setSum
    split
    · rw [ih]; omega
    · exact ih
theorem setSum_nn {f : Int → Int} {s m : Nat} (h : ∀ i : Nat, i < m → 0 ≤ f (i : Int)) : 0 ≤ setSum f s m := by
  induction m with
  | zero => exact Int.le_refl _
  | succ m ih =>
    have h1 := ih (fun i hi => h i (by omega))
    have h2 := h m (by omega)
    unfold setSum
    split <;> omega
/-- what the pot and the hungers are after k rounds of the set s -/
def simP (v : SV) (s k : Nat) (w : SV) : Prop := (qn w = qn v ∧ qhe w = max (qhe v - (k : Int)) 0 ∧ qsa w = qsa v ∧ qkd w = qkd v ∧ qsp w = qsp v ∧ qbe w = qbe v) ∧ ((qam w = 0 ∧ qam v ≤ setSum (fun i => reachN v i k) s (qn v).toNat) ∨ (0 < qam w ∧ qam w = qam v - setSum (fun i => reachN v i k) s (qn v).toNat ∧ ∀ i : Nat, (i : Int) < qn v → bitI s i = 1 → qhu w (i : Int) = qhu v (i : Int) - reachN v (i : Int) k))
theorem eatQ_c (w : SV) (s m : Nat) : qhe (eatQ w s m).1 = qhe w ∧ qsa (eatQ w s m).1 = qsa w ∧ qkd (eatQ w s m).1 = qkd w ∧ qsp (eatQ w s m).1 = qsp w ∧ qbe (eatQ w s m).1 = qbe w ∧ ∀ i : Int, (m : Int) ≤ i → qhu (eatQ w s m).1 i = qhu w i := by
  induction m with
  | zero => exact ⟨rfl, rfl, rfl, rfl, rfl, fun _ _ => rfl⟩
  | succ m ih =>
    obtain ⟨h1, h2, h3, h4, h5, h6⟩ := ih
    refine ⟨h1, h2, h3, h4, h5, fun i hi => ?_⟩
    show uI (qhu (eatQ w s m).1) (m : Int) _ i = qhu w i
    rw [uI_n _ _ (by omega)]
    exact h6 i (by omega)
theorem eatQ_in {v w : SV} {s k : Nat} (hv : okV v) (hw : okV w) (h : simP v s k w) : ∀ m : Nat, (m : Int) ≤ qn v → (qam w = 0 → qam (eatQ w s m).1 = 0) ∧ (0 < qam w → (qam (eatQ w s m).1 = 0 ∧ qam w ≤ setSum (incV v k) s m) ∨ (0 < qam (eatQ w s m).1 ∧ qam (eatQ w s m).1 = qam w - setSum (incV v k) s m ∧ ∀ i : Nat, i < m → bitI s i = 1 → qhu (eatQ w s m).1 (i : Int) = qhu w (i : Int) - incV v k (i : Int))) := by
  obtain ⟨⟨c1, c2, c3, c4, c5, c6⟩, hd⟩ := h
  intro m
  induction m with
  | zero => exact fun _ => ⟨fun h => h, fun h => Or.inr ⟨h, by show qam w = qam w - 0; omega, fun i hi => by omega⟩⟩
  | succ m ih =>
    intro hm
    obtain ⟨i1, i2⟩ := ih (by omega)
    obtain ⟨e1, e2, e3, e4, e5, e6⟩ := eatQ_c w s m
    have hx := okV_eatQ hw s m (by omega)
    have hs := shareV_b hx (i := (m : Int)) (by omega) (by rw [eatQ_n]; omega)
    have hinc := incV_b hv (i := (m : Int)) (by omega) (by omega) k
    have hsh : shareV (eatQ w s m).1 (m : Int) = min (min (spoonV (qsa v) (qhe v - (k : Int)) (qkd v m) (qsp v m) (qbe v m)) (qhu w m)) (qam (eatQ w s m).1) := by
      unfold shareV
      rw [e1, e2, e3, e4, e5, e6 (m : Int) (by omega), c2, c3, c4, c5, c6, spoonV_he]
    have ea : qam (eatQ w s (m + 1)).1 = qam (eatQ w s m).1 - (if bitI s m = 1 then shareV (eatQ w s m).1 (m : Int) else 0) := rfl
    have eh : ∀ i : Int, qhu (eatQ w s (m + 1)).1 i = uI (qhu (eatQ w s m).1) (m : Int) (qhu (eatQ w s m).1 (m : Int) - (if bitI s m = 1 then shareV (eatQ w s m).1 (m : Int) else 0)) i := fun _ => rfl
    constructor
    · intro h0
      have h1 := i1 h0
      rw [ea]
      split <;> omega
    · intro h0
      have hdw : ∀ i : Nat, (i : Int) < qn v → bitI s i = 1 → qhu w (i : Int) = qhu v (i : Int) - reachN v (i : Int) k := by
        rcases hd with ⟨d1, _⟩ | ⟨_, _, d3⟩
        · omega
        · exact d3
      by_cases hb : bitI s m = 1
      · have hw2 := hdw m (by omega) hb
        have hin : incV v k (m : Int) = min (spoonV (qsa v) (qhe v - (k : Int)) (qkd v m) (qsp v m) (qbe v m)) (qhu w m) := by unfold incV; rw [hw2]
        rw [if_pos hb] at ea
        have es : setSum (incV v k) s (m + 1) = setSum (incV v k) s m + incV v k (m : Int) := by
          show (if bitI s m = 1 then setSum (incV v k) s m + incV v k (m : Int) else setSum (incV v k) s m) = _
          rw [if_pos hb]
        rw [ea, es]
        rcases i2 h0 with ⟨j1, j2⟩ | ⟨j1, j2, j3⟩
        · exact Or.inl ⟨by omega, by omega⟩
        · by_cases hle : qam (eatQ w s m).1 ≤ incV v k (m : Int)
          · exact Or.inl ⟨by omega, by omega⟩
          · refine Or.inr ⟨by omega, by omega, fun i hi hbi => ?_⟩
            rw [eh, if_pos hb]
            unfold uI
            by_cases e : (i : Int) = (m : Int)
            · rw [if_pos e, e6 (m : Int) (by omega), e]
              omega
            · rw [if_neg e]
              exact j3 i (by omega) hbi
      · rw [if_neg hb] at ea
        have es : setSum (incV v k) s (m + 1) = setSum (incV v k) s m := by
          show (if bitI s m = 1 then setSum (incV v k) s m + incV v k (m : Int) else setSum (incV v k) s m) = _
          rw [if_neg hb]
        rw [ea, es]
        rcases i2 h0 with ⟨j1, j2⟩ | ⟨j1, j2, j3⟩
        · exact Or.inl ⟨by omega, by omega⟩
        · refine Or.inr ⟨by omega, by omega, fun i hi hbi => ?_⟩
          rw [eh, if_neg hb]
          unfold uI
          by_cases e : (i : Int) = (m : Int)
          · have e7 : i = m := by omega
            rw [e7] at hbi
            exact absurd hbi hb
          · rw [if_neg e]
            exact j3 i (by omega) hbi
theorem simP_k {v : SV} (hv : okV v) (s k : Nat) : simP v s k (roundsQ v s k) := by
  induction k with
  | zero =>
    refine ⟨⟨rfl, by show qhe v = max (qhe v - 0) 0; have := hv.2.2.1; omega, rfl, rfl, rfl, rfl⟩, ?_⟩
    have e : setSum (fun i => reachN v i 0) s (qn v).toNat = 0 := by
      have : ∀ m, setSum (fun i => reachN v i 0) s m = 0 := by
        intro m
        induction m with
        | zero => rfl
        | succ m ih => unfold setSum; rw [ih]; split <;> rfl
      exact this _
    rw [e]
    have ha := hv.2.1.1
    by_cases h : qam v = 0
    · exact Or.inl ⟨h, by omega⟩
    · exact Or.inr ⟨by show 0 < qam v; omega, by show qam v = qam v - 0; omega, fun i _ _ => by show qhu v i = qhu v i - 0; omega⟩
  | succ k ih =>
    have hw := okV_roundsQ hv s k
    have hin := eatQ_in hv hw ih (qn v).toNat (by have := hv.1; omega)
    obtain ⟨e1, e2, e3, e4, e5, e6⟩ := eatQ_c (roundsQ v s k) s (qn v).toNat
    have hn := roundsQ_n v s k
    obtain ⟨⟨c1, c2, c3, c4, c5, c6⟩, hd⟩ := ih
    have er : roundsQ v s (k + 1) = waitV (eatQ (roundsQ v s k) s (qn v).toNat).1 := by
      show roundQ (roundsQ v s k) s = _
      unfold roundQ
      rw [hn]
    have esum : setSum (fun i => reachN v i (k + 1)) s (qn v).toNat = setSum (fun i => reachN v i k) s (qn v).toNat + setSum (incV v k) s (qn v).toNat := setSum_add _ _ _ _
    have hnn : 0 ≤ setSum (incV v k) s (qn v).toNat := setSum_nn (fun i hi => incV_b hv (by omega) (by have := hv.1; omega) k)
    rw [er]
    refine ⟨⟨by show qn (eatQ (roundsQ v s k) s (qn v).toNat).1 = _; rw [eatQ_n, hn], ?_, e2.trans c3, e3.trans c4, e4.trans c5, e5.trans c6⟩, ?_⟩
    · show max (qhe (eatQ (roundsQ v s k) s (qn v).toNat).1 - 1) 0 = _
      rw [e1, c2]
      omega
    · show (qam (eatQ (roundsQ v s k) s (qn v).toNat).1 = 0 ∧ _) ∨ (0 < qam (eatQ (roundsQ v s k) s (qn v).toNat).1 ∧ qam (eatQ (roundsQ v s k) s (qn v).toNat).1 = _ ∧ _)
      rw [esum]
      rcases hd with ⟨d1, d2⟩ | ⟨d1, d2, d3⟩
      · exact Or.inl ⟨hin.1 d1, by omega⟩
      · rcases hin.2 d1 with ⟨j1, j2⟩ | ⟨j1, j2, j3⟩
        · exact Or.inl ⟨j1, by omega⟩
        · refine Or.inr ⟨j1, by omega, fun i hi hb => ?_⟩
          show qhu (eatQ (roundsQ v s k) s (qn v).toNat).1 (i : Int) = qhu v (i : Int) - reachN v (i : Int) (k + 1)
          rw [j3 i (by omega) hb, d3 i hi hb]
          show _ = qhu v (i : Int) - (reachN v (i : Int) k + incV v k (i : Int))
          omega
theorem reach_mono {v : SV} (hv : okV v) {i : Int} (h0 : 0 ≤ i) (h1 : i < qn v) {k m : Nat} (h : k ≤ m) : reachN v i k ≤ reachN v i m := by
  induction m with
  | zero => have e : k = 0 := by omega
            rw [e]; exact Int.le_refl _
  | succ m ih =>
    by_cases e : k = m + 1
    · rw [e]; exact Int.le_refl _
    · have h2 := ih (by omega)
      have h3 := incV_b hv h0 h1 m
      show reachN v i k ≤ reachN v i m + incV v m i
      omega
theorem setSum_mono {f g : Int → Int} {s m : Nat} (h : ∀ i : Nat, i < m → f (i : Int) ≤ g (i : Int)) : setSum f s m ≤ setSum g s m := by
  induction m with
  | zero => exact Int.le_refl _
  | succ m ih =>
    have h1 := ih (fun i hi => h i (by omega))
    have h2 := h m (by omega)
    unfold setSum
    split <;> omega
/-- the set s empties the pot exactly if what its members would eat is enough -/
theorem lets_iff {v : SV} (hv : okV v) (s : Nat) : letsV v s = 1 ↔ ∃ k : Nat, (k : Int) ≤ qro v ∧ qam (roundsQ v s k) = 0 := by
  have hn := hv.1
  have hro := hv.2.2.2.2.1
  have e : ∀ i : Int, reachV v i = reachN v i (qro v).toNat := fun _ => rfl
  have el : letsV v s = if qam v ≤ setSum (fun i => reachN v i (qro v).toNat) s (qn v).toNat then 1 else 0 := rfl
  rw [el]
  constructor
  · intro h
    have h2 : qam v ≤ setSum (fun i => reachN v i (qro v).toNat) s (qn v).toNat := by
      by_cases h3 : qam v ≤ setSum (fun i => reachN v i (qro v).toNat) s (qn v).toNat
      · exact h3
      · rw [if_neg h3] at h
        exact absurd h (by decide)
    refine ⟨(qro v).toNat, by omega, ?_⟩
    rcases (simP_k hv s (qro v).toNat).2 with ⟨d1, _⟩ | ⟨d1, d2, _⟩
    · exact d1
    · omega
  · rintro ⟨k, hk, h0⟩
    have h2 : setSum (fun i => reachN v i k) s (qn v).toNat ≤ setSum (fun i => reachN v i (qro v).toNat) s (qn v).toNat := setSum_mono (fun i hi => reach_mono hv (by omega) (by omega) (by omega))
    rcases (simP_k hv s k).2 with ⟨_, d2⟩ | ⟨d1, _, _⟩
    · rw [if_pos (by omega)]
    · omega
theorem letsV_01 (v : SV) (s : Nat) : letsV v s = 0 ∨ letsV v s = 1 := letsI_01 _ _ _ _
theorem lets_all {v : SV} (hv : okV v) : letsV v (2 ^ (qn v).toNat - 1) = passI v := by
  have e : ∀ m : Nat, m ≤ (qn v).toNat → setSum (reachV v) (2 ^ (qn v).toNat - 1) m = reachA v m := by
    intro m
    induction m with
    | zero => intro _; rfl
    | succ m ih =>
      intro hm
      have hb := bit_all (qn v).toNat (by have := hv.1; omega) m (by omega)
      unfold setSum reachA
      rw [if_pos hb, ih (by omega)]
  unfold letsV letsI passI
  rw [e _ (Nat.le_refl _)]
/-- behind how many rounds of the set s the pot is empty -/
def untilQ (v : SV) (s : Nat) (z : Int) : Prop := (∃ k : Nat, (k : Int) ≤ qro v ∧ qam (roundsQ v s k) = 0 ∧ (∀ m : Nat, m < k → qam (roundsQ v s m) ≠ 0) ∧ z = (k : Int)) ∨ ((∀ m : Nat, (m : Int) ≤ qro v → qam (roundsQ v s m) ≠ 0) ∧ z = -4)
theorem untilQ_all {v : SV} (hv : okV v) {z : Int} (h : untilQ v (2 ^ (qn v).toNat - 1) z) : untilP v z := by
  rcases h with ⟨k, h1, h2, h3, h4⟩ | ⟨h1, h2⟩
  · exact Or.inl ⟨k, h1, by rw [← roundsQ_all hv]; exact h2, fun m hm => by rw [← roundsQ_all hv]; exact h3 m hm, h4⟩
  · exact Or.inr ⟨fun m hm => by rw [← roundsQ_all hv]; exact h1 m hm, h2⟩
theorem untilQ_lets {v : SV} (hv : okV v) {s : Nat} {z : Int} (h : untilQ v s z) : (z ≠ -4 ∧ letsV v s = 1) ∨ (z = -4 ∧ letsV v s = 0) := by
  rcases h with ⟨k, h1, h2, h3, h4⟩ | ⟨h1, h2⟩
  · exact Or.inl ⟨by omega, (lets_iff hv s).mpr ⟨k, h1, h2⟩⟩
  · refine Or.inr ⟨h2, ?_⟩
    rcases letsV_01 v s with h3 | h3
    · exact h3
    · obtain ⟨k, h4, h5⟩ := (lets_iff hv s).mp h3
      exact absurd h5 (h1 k h4)
theorem endI_e {lt : Int → Int} {le p a : Int} {n : Nat} (h : manyT (atT lt le p) = n) (hq : plT lt le (manyT (atT lt le p)) p n = a) : endI lt le p = a := by
  subst h
  exact hq
