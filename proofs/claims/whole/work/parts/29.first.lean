/-! THE FIRST TEXT; what the reading of a text hangs on -/
theorem atT_at {lt tx : Int → Int} {le : Int} (h : ∀ i : Int, 0 ≤ i → i < le → lt i = tx i) : atT lt le = atT tx le := by
  funext p
  unfold atT
  split
  · rename_i hp
    exact h p hp.1 hp.2
  · rfl
theorem figI_at {lt tx : Int → Int} {le : Int} (h : atT lt le = atT tx le) : figI lt le = figI tx le := by
  funext p
  unfold figI
  rw [h]
theorem figsT_at {lt tx : Int → Int} {le : Int} (h : atT lt le = atT tx le) : figsT lt le = figsT tx le := by
  funext p
  unfold figsT
  rw [figI_at h]
theorem valT_at {lt tx : Int → Int} {le : Int} (h : atT lt le = atT tx le) : valT lt le = valT tx le := by
  funext p
  unfold valT
  rw [figsT_at h, h]
theorem plT_at {lt tx : Int → Int} {le : Int} (h : atT lt le = atT tx le) (many : Nat) (p : Int) (k : Nat) : plT lt le many p k = plT tx le many p k := by
  induction k with
  | zero => rfl
  | succ k ih =>
    unfold plT
    rw [ih, figsT_at h, h]
theorem nuT_at {lt tx : Int → Int} {le : Int} (h : atT lt le = atT tx le) (p : Int) (k : Nat) : nuT lt le p k = nuT tx le p k := by
  unfold nuT
  rw [valT_at h, h, plT_at h]
theorem endI_at {lt tx : Int → Int} {le : Int} (h : atT lt le = atT tx le) (p : Int) : endI lt le p = endI tx le p := by
  unfold endI
  rw [h, plT_at h]
theorem okI_at {lt tx : Int → Int} {le : Int} (h : atT lt le = atT tx le) (p n : Int) : okI lt le p n ↔ okI tx le p n := by
  unfold okI
  rw [endI_at h, nuT_at h, nuT_at h, nuT_at h, nuT_at h, h]
theorem stT_at {lt tx : Int → Int} {le : Int} (h : atT lt le = atT tx le) (v : SV) (k : Nat) : stT lt le v k = stT tx le v k := by
  induction k with
  | zero => rfl
  | succ k ih =>
    show (endI lt le (stT lt le v k).1, _) = (endI tx le (stT tx le v k).1, _)
    rw [ih, endI_at h, nuT_at h, nuT_at h, nuT_at h, nuT_at h, h]
theorem faultP_at {lt tx : Int → Int} {le : Int} (h : ∀ i : Int, 0 ≤ i → i < le → lt i = tx i) {v w : SV} {z : Int} (hf : faultP lt le v z w) : faultP tx le v z w := by
  have h2 := atT_at h
  obtain ⟨k, h3, h4⟩ := hf
  rw [stT_at h2, okI_at h2] at h4
  exact ⟨k, fun m hm => by
    have h5 := h3 m hm
    rw [stT_at h2] at h5
    exact (okI_at h2 _ _).mp h5, h4⟩
theorem faultP_det {lt : Int → Int} {le : Int} {v w w2 : SV} {z z2 : Int} (hle : 0 ≤ le) (h : faultP lt le v z w) (h2 : faultP lt le v z2 w2) : z = z2 ∧ (z = -4 → w = w2) := by
  have hc := faultP_c hle h
  obtain ⟨k, a1, a2⟩ := id h
  obtain ⟨k2, b1, b2⟩ := id h2
  have e : k = k2 := by
    rcases Nat.lt_trichotomy k k2 with hk | hk | hk
    · exfalso
      have h3 := b1 k hk
      rcases a2 with ⟨g1, -⟩ | ⟨-, g1, -⟩
      · exact g1 h3.1
      · exact g1 h3
    · exact hk
    · exfalso
      have h3 := a1 k2 hk
      rcases b2 with ⟨g1, -⟩ | ⟨-, g1, -⟩
      · exact g1 h3.1
      · exact g1 h3
  subst e
  rcases a2 with ⟨g1, g2, g3⟩ | ⟨g1, g2, g3⟩
  · rcases b2 with ⟨f1, f2, f3⟩ | ⟨f1, f2, f3⟩
    · exact ⟨by rw [g2, f2], fun _ => by rw [g3, f3]⟩
    · exact absurd f1 g1
  · rcases b2 with ⟨f1, f2, f3⟩ | ⟨f1, f2, f3⟩
    · exact absurd g1 f1
    · refine ⟨by rw [g3, f3], fun hz => ?_⟩
      have hp : ∀ m : Nat, (∀ q : Nat, q < m → okI lt le (stT lt le v q).1 (qn (stT lt le v q).2)) → 0 ≤ (stT lt le v m).1 := by
        intro m
        induction m with
        | zero => intro _; exact Int.le_refl _
        | succ m ih =>
          intro hq
          have h2 := ih (fun q hq2 => hq q (by omega))
          have h3 := okI_next hle h2 (hq m (by omega))
          show 0 ≤ endI lt le (stT lt le v m).1
          omega
      have := hp k a1
      omega
theorem st_next {lt : Int → Int} {le : Int} {v w : SV} {k : Nat} {p : Int} (h : stT lt le v k = (p, w)) : stT lt le v (k + 1) = (endI lt le p, tV (atT lt le p) w (nuT lt le p 0) (nuT lt le p 1) (nuT lt le p 2) (nuT lt le p 3)) := by
  show (endI lt le (stT lt le v k).1, tV (atT lt le (stT lt le v k).1) (stT lt le v k).2 (nuT lt le (stT lt le v k).1 0) (nuT lt le (stT lt le v k).1 1) (nuT lt le (stT lt le v k).1 2) (nuT lt le (stT lt le v k).1 3)) = _
  rw [h]
theorem tV_m (v : SV) (a b d e : Int) : tV 109 v a b d e = memV v a b d e := if_pos rfl
theorem tV_p (v : SV) (a b d e : Int) : tV 112 v a b d e = (qn v, a, b, d, qro v, qfa v, qkd v, qsp v, qhu v, qbe v, qea v) := by
  unfold tV
  rw [if_neg (by decide), if_pos rfl]
theorem tV_r (v : SV) (a b d e : Int) : tV 114 v a b d e = (qn v, qam v, qhe v, qsa v, a, qfa v, qkd v, qsp v, qhu v, qbe v, qea v) := by
  unfold tV
  rw [if_neg (by decide), if_neg (by decide), if_pos rfl]
theorem tV_f (v : SV) (a b d e : Int) : tV 102 v a b d e = (qn v, qam v, qhe v, qsa v, qro v, a, qkd v, qsp v, qhu v, qbe v, qea v) := by
  unfold tV
  rw [if_neg (by decide), if_neg (by decide), if_neg (by decide)]
/-- the members of the first text, and all of it -/
def fiM (v : SV) : SV := memV (memV (memV (memV (memV (clearV v) 0 3 12 6) 1 4 20 3) 2 2 9 5) 3 5 30 9) 0 1 8 2
def fiV (v : SV) : SV := (5, 40, 6, 2, 5, 6, qkd (fiM v), qsp (fiM v), qhu (fiM v), qbe (fiM v), qea (fiM v))
theorem fi_num : (endI jsT 62 0 = 10 ∧ atT jsT 62 0 = 109 ∧ nuT jsT 62 0 0 = 0 ∧ nuT jsT 62 0 1 = 3 ∧ nuT jsT 62 0 2 = 12 ∧ nuT jsT 62 0 3 = 6) ∧ (endI jsT 62 10 = 20 ∧ atT jsT 62 10 = 109 ∧ nuT jsT 62 10 0 = 1 ∧ nuT jsT 62 10 1 = 4 ∧ nuT jsT 62 10 2 = 20 ∧ nuT jsT 62 10 3 = 3) ∧ (endI jsT 62 20 = 29 ∧ atT jsT 62 20 = 109 ∧ nuT jsT 62 20 0 = 2 ∧ nuT jsT 62 20 1 = 2 ∧ nuT jsT 62 20 2 = 9 ∧ nuT jsT 62 20 3 = 5) ∧ (endI jsT 62 29 = 39 ∧ atT jsT 62 29 = 109 ∧ nuT jsT 62 29 0 = 3 ∧ nuT jsT 62 29 1 = 5 ∧ nuT jsT 62 29 2 = 30 ∧ nuT jsT 62 29 3 = 9) ∧ (endI jsT 62 39 = 48 ∧ atT jsT 62 39 = 109 ∧ nuT jsT 62 39 0 = 0 ∧ nuT jsT 62 39 1 = 1 ∧ nuT jsT 62 39 2 = 8 ∧ nuT jsT 62 39 3 = 2) ∧ (endI jsT 62 48 = 56 ∧ atT jsT 62 48 = 112 ∧ nuT jsT 62 48 0 = 40 ∧ nuT jsT 62 48 1 = 6 ∧ nuT jsT 62 48 2 = 2) ∧ (endI jsT 62 56 = 59 ∧ atT jsT 62 56 = 114 ∧ nuT jsT 62 56 0 = 5) ∧ (endI jsT 62 59 = 62 ∧ atT jsT 62 59 = 102 ∧ nuT jsT 62 59 0 = 6) := by decide +kernel
set_option maxHeartbeats 4000000 in
theorem faultP_first (v : SV) : faultP jsT 62 v (-4) (fiV v) := by
  obtain ⟨⟨a1, a2, a3, a4, a5, a6⟩, ⟨b1, b2, b3, b4, b5, b6⟩, ⟨c1, c2, c3, c4, c5, c6⟩, ⟨d1, d2, d3, d4, d5, d6⟩, ⟨e1, e2, e3, e4, e5, e6⟩, ⟨f1, f2, f3, f4, f5⟩, ⟨g1, g2, g3⟩, ⟨h1, h2, h3⟩⟩ := fi_num
  have s0 : stT jsT 62 v 0 = (0, clearV v) := rfl
  have s1 := st_next s0
  rw [a1, a2, a3, a4, a5, a6, tV_m] at s1
  have s2 := st_next s1
  rw [b1, b2, b3, b4, b5, b6, tV_m] at s2
  have s3 := st_next s2
  rw [c1, c2, c3, c4, c5, c6, tV_m] at s3
  have s4 := st_next s3
  rw [d1, d2, d3, d4, d5, d6, tV_m] at s4
  have s5 := st_next s4
  rw [e1, e2, e3, e4, e5, e6, tV_m] at s5
  have s6 := st_next s5
  rw [f1, f2, f3, f4, f5, tV_p] at s6
  have s7 := st_next s6
  rw [g1, g2, g3, tV_r] at s7
  have s8 := st_next s7
  rw [h1, h2, h3, tV_f] at s8
  refine ⟨8, fun m hm => ?_, Or.inl ⟨?_, rfl, ?_⟩⟩
  · have hM : ∀ p n : Int, okI jsT 62 p n ↔ (p < 62 ∧ manyT (atT jsT 62 p) ≠ 0 ∧ endI jsT 62 p ≠ -1 ∧ tOk (atT jsT 62 p) n (nuT jsT 62 p 0) (nuT jsT 62 p 1) (nuT jsT 62 p 2) (nuT jsT 62 p 3)) := fun _ _ => Iff.rfl
    match m, hm with
    | 0, _ =>
      rw [s0]
      refine (hM _ _).mpr ⟨(by decide : (0 : Int) < 62), ?_⟩
      show manyT (atT jsT 62 0) ≠ 0 ∧ endI jsT 62 0 ≠ -1 ∧ tOk (atT jsT 62 0) 0 _ _ _ _
      rw [a1, a2, a3, a4, a5, a6]
      exact ⟨by decide, by decide, by unfold tOk okM; decide⟩
    | 1, _ =>
      rw [s1]
      refine (hM _ _).mpr ⟨(by decide : (10 : Int) < 62), ?_⟩
      show manyT (atT jsT 62 10) ≠ 0 ∧ endI jsT 62 10 ≠ -1 ∧ tOk (atT jsT 62 10) 1 _ _ _ _
      rw [b1, b2, b3, b4, b5, b6]
      exact ⟨by decide, by decide, by unfold tOk okM; decide⟩
    | 2, _ =>
      rw [s2]
      refine (hM _ _).mpr ⟨(by decide : (20 : Int) < 62), ?_⟩
      show manyT (atT jsT 62 20) ≠ 0 ∧ endI jsT 62 20 ≠ -1 ∧ tOk (atT jsT 62 20) 2 _ _ _ _
      rw [c1, c2, c3, c4, c5, c6]
      exact ⟨by decide, by decide, by unfold tOk okM; decide⟩
    | 3, _ =>
      rw [s3]
      refine (hM _ _).mpr ⟨(by decide : (29 : Int) < 62), ?_⟩
      show manyT (atT jsT 62 29) ≠ 0 ∧ endI jsT 62 29 ≠ -1 ∧ tOk (atT jsT 62 29) 3 _ _ _ _
      rw [d1, d2, d3, d4, d5, d6]
      exact ⟨by decide, by decide, by unfold tOk okM; decide⟩
    | 4, _ =>
      rw [s4]
      refine (hM _ _).mpr ⟨(by decide : (39 : Int) < 62), ?_⟩
      show manyT (atT jsT 62 39) ≠ 0 ∧ endI jsT 62 39 ≠ -1 ∧ tOk (atT jsT 62 39) 4 _ _ _ _
      rw [e1, e2, e3, e4, e5, e6]
      exact ⟨by decide, by decide, by unfold tOk okM; decide⟩
    | 5, _ =>
      rw [s5]
      refine (hM _ _).mpr ⟨(by decide : (48 : Int) < 62), ?_⟩
      show manyT (atT jsT 62 48) ≠ 0 ∧ endI jsT 62 48 ≠ -1 ∧ tOk (atT jsT 62 48) 5 _ _ _ _
      rw [f1, f2, f3, f4, f5]
      exact ⟨by decide, by decide, Or.inr (Or.inl ⟨rfl, by decide, by decide, by decide⟩)⟩
    | 6, _ =>
      rw [s6]
      refine (hM _ _).mpr ⟨(by decide : (56 : Int) < 62), ?_⟩
      show manyT (atT jsT 62 56) ≠ 0 ∧ endI jsT 62 56 ≠ -1 ∧ tOk (atT jsT 62 56) 5 _ _ _ _
      rw [g1, g2, g3]
      exact ⟨by decide, by decide, Or.inr (Or.inr ⟨Or.inl rfl, by decide, by decide⟩)⟩
    | 7, _ =>
      rw [s7]
      refine (hM _ _).mpr ⟨(by decide : (59 : Int) < 62), ?_⟩
      show manyT (atT jsT 62 59) ≠ 0 ∧ endI jsT 62 59 ≠ -1 ∧ tOk (atT jsT 62 59) 5 _ _ _ _
      rw [h1, h2, h3]
      exact ⟨by decide, by decide, Or.inr (Or.inr ⟨Or.inr rfl, by decide, by decide⟩)⟩
  · rw [s8]
    exact (by decide : ¬ (62 : Int) < 62)
  · rw [s8]
    rfl
/-- what the class' constructor leaves -/
theorem fi_only {lt : Int → Int} {v w : SV} {z : Int} (h : ∀ i : Int, 0 ≤ i → i < 62 → lt i = jsT i) (hf : faultP lt 62 v z w) : w = fiV v := by
  have h1 := faultP_det (by decide) (faultP_first v) (faultP_at h hf)
  exact (h1.2 rfl).symm
theorem fi_okV (v : SV) : okV (fiV v) := by
  have h := faultP_c (by decide) (faultP_first v)
  rcases h with h | h
  · exact h.2
  · exact absurd rfl h.2.1
