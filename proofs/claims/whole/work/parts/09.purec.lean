theorem nar_ch {z : Int} (h0 : 0 ≤ z) (h1 : z < 65536) : narrow .char (.int (iI z)) = .int (iI z) := by
  obtain ⟨n, rfl⟩ := Int.eq_ofNat_of_zero_le h0
  rw [iI_n]
  exact (pk_charN (by omega)).1
theorem nar_ch2 {z : Int} (h0 : 0 ≤ z) (h1 : z < 65536) : vp_nar .char (iI z) = iI z := by
  obtain ⟨n, rfl⟩ := Int.eq_ofNat_of_zero_le h0
  rw [iI_n]
  have h := (pk_charN (q := n) (by omega)).1
  unfold vp_nar
  rw [h]
def atT (lt : Int → Int) (le p : Int) : Int := if 0 ≤ p ∧ p < le then lt p else 0
def okT (lt : Int → Int) (le : Int) : Prop := (0 ≤ le ∧ le ≤ 200) ∧ ∀ i : Int, 0 ≤ i → i < le → 32 ≤ lt i ∧ lt i ≤ 126
def okN (nu : Int → Int) : Prop := ∀ k : Int, 0 ≤ k → k < 4 → 0 ≤ nu k ∧ nu k ≤ 99
theorem atT_b {lt : Int → Int} {le : Int} (h : okT lt le) (p : Int) : 0 ≤ atT lt le p ∧ atT lt le p ≤ 126 := by
  unfold atT
  split
  · rename_i hp
    have := h.2 p hp.1 hp.2
    omega
  · omega
def figI (lt : Int → Int) (le p : Int) : Int := if 48 ≤ atT lt le p ∧ atT lt le p ≤ 57 then 1 else 0
def figsT (lt : Int → Int) (le p : Int) : Int := if figI lt le p = 1 then (if figI lt le (p + 1) = 1 then 2 else 1) else 0
def valT (lt : Int → Int) (le p : Int) : Int := if figsT lt le p = 1 then atT lt le p - 48 else 10 * (atT lt le p - 48) + (atT lt le (p + 1) - 48)
theorem figI_c (lt : Int → Int) (le p : Int) : (figI lt le p = 1 ∧ 48 ≤ atT lt le p ∧ atT lt le p ≤ 57) ∨ (figI lt le p = 0 ∧ ¬ (48 ≤ atT lt le p ∧ atT lt le p ≤ 57)) := by
  unfold figI
  split <;> omega
theorem figsT_c (lt : Int → Int) (le p : Int) : (figsT lt le p = 0 ∧ figI lt le p = 0) ∨ (figsT lt le p = 1 ∧ figI lt le p = 1 ∧ figI lt le (p + 1) = 0) ∨ (figsT lt le p = 2 ∧ figI lt le p = 1 ∧ figI lt le (p + 1) = 1) := by
  have h1 := figI_c lt le p
  have h2 := figI_c lt le (p + 1)
  unfold figsT
  split
  · split <;> omega
  · omega
theorem valT_b {lt : Int → Int} {le p : Int} (h : figsT lt le p ≠ 0) : 0 ≤ valT lt le p ∧ valT lt le p ≤ 99 := by
  have h0 := figsT_c lt le p
  have h1 := figI_c lt le p
  have h2 := figI_c lt le (p + 1)
  unfold valT
  split <;> omega
def manyT (x : Int) : Nat := if x = 109 then 4 else if x = 112 then 3 else if x = 114 ∨ x = 102 then 1 else 0
theorem manyT_b (x : Int) : manyT x ≤ 4 := by unfold manyT; split <;> (try split) <;> (try split) <;> omega
def endT (many k : Nat) : Int := if k + 1 < many then 44 else 59
/-- the place behind k numbers of an item, or -1 -/
def plT (lt : Int → Int) (le : Int) (many : Nat) (p : Int) : Nat → Int
  | 0 => p + 1
  | k + 1 => if plT lt le many p k = -1 ∨ figsT lt le (plT lt le many p k) = 0 ∨ atT lt le (plT lt le many p k + figsT lt le (plT lt le many p k)) ≠ endT many k then -1 else plT lt le many p k + figsT lt le (plT lt le many p k) + 1
theorem plT_b {lt : Int → Int} {le : Int} {many : Nat} {p : Int} (hp : 0 ≤ p) (k : Nat) : plT lt le many p k = -1 ∨ (p + 1 + 2 * k ≤ plT lt le many p k ∧ plT lt le many p k ≤ p + 1 + 3 * k) := by
  induction k with
  | zero => right; unfold plT; omega
  | succ k ih =>
    have h0 := figsT_c lt le (plT lt le many p k)
    unfold plT
    split <;> omega
theorem plT_m1 {lt : Int → Int} {le : Int} {many : Nat} {p : Int} {k m : Nat} (h : plT lt le many p k = -1) (hm : k ≤ m) : plT lt le many p m = -1 := by
  induction m with
  | zero => have e : k = 0 := by omega
            rw [e] at h; exact h
  | succ m ih =>
    by_cases e : k = m + 1
    · rw [e] at h; exact h
    · unfold plT
      rw [if_pos (Or.inl (ih (by omega)))]
/-- behind a whole item the place is no farther than the text's end -/
theorem plT_le {lt : Int → Int} {le : Int} {many : Nat} {p : Int} (hle : 0 ≤ le) {k : Nat} (h : plT lt le many p (k + 1) ≠ -1) : plT lt le many p (k + 1) ≤ le := by
  unfold plT at h ⊢
  split at h
  · exact absurd rfl h
  · rename_i hc
    rw [if_neg hc]
    have h3 : atT lt le (plT lt le many p k + figsT lt le (plT lt le many p k)) = endT many k := by
      by_cases e : atT lt le (plT lt le many p k + figsT lt le (plT lt le many p k)) = endT many k
      · exact e
      · exact absurd (Or.inr (Or.inr e)) hc
    unfold atT at h3
    split at h3
    · omega
    · unfold endT at h3
      split at h3 <;> omega
def tOk (x n a b d e : Int) : Prop := (x = 109 ∧ okM a b d e ∧ n ≤ 6) ∨ (x = 112 ∧ (0 ≤ a ∧ a ≤ 99) ∧ (0 ≤ b ∧ b ≤ 9) ∧ (0 ≤ d ∧ d ≤ 9)) ∨ ((x = 114 ∨ x = 102) ∧ 1 ≤ a ∧ a ≤ 20)
def tV (x : Int) (v : SV) (a b d e : Int) : SV := if x = 109 then memV v a b d e else if x = 112 then (qn v, a, b, d, qro v, qfa v, qkd v, qsp v, qhu v, qbe v, qea v) else if x = 114 then (qn v, qam v, qhe v, qsa v, a, qfa v, qkd v, qsp v, qhu v, qbe v, qea v) else (qn v, qam v, qhe v, qsa v, qro v, a, qkd v, qsp v, qhu v, qbe v, qea v)
/-- the k-th number of the item at p -/
def nuT (lt : Int → Int) (le p : Int) (k : Nat) : Int := valT lt le (plT lt le (manyT (atT lt le p)) p k)
def endI (lt : Int → Int) (le p : Int) : Int := plT lt le (manyT (atT lt le p)) p (manyT (atT lt le p))
/-- the item at p is so -/
def okI (lt : Int → Int) (le p n : Int) : Prop := p < le ∧ manyT (atT lt le p) ≠ 0 ∧ endI lt le p ≠ -1 ∧ tOk (atT lt le p) n (nuT lt le p 0) (nuT lt le p 1) (nuT lt le p 2) (nuT lt le p 3)
/-- place and draft behind k items -/
def stT (lt : Int → Int) (le : Int) (v : SV) : Nat → Int × SV
  | 0 => (0, clearV v)
  | k + 1 => (endI lt le (stT lt le v k).1, tV (atT lt le (stT lt le v k).1) (stT lt le v k).2 (nuT lt le (stT lt le v k).1 0) (nuT lt le (stT lt le v k).1 1) (nuT lt le (stT lt le v k).1 2) (nuT lt le (stT lt le v k).1 3))
/-- what the reading of a text answers, and the draft that it leaves where there is no fault -/
def faultP (lt : Int → Int) (le : Int) (v : SV) (z : Int) (w : SV) : Prop := ∃ k : Nat, (∀ m : Nat, m < k → okI lt le (stT lt le v m).1 (qn (stT lt le v m).2)) ∧ ((¬ (stT lt le v k).1 < le ∧ z = -4 ∧ w = (stT lt le v k).2) ∨ ((stT lt le v k).1 < le ∧ ¬ okI lt le (stT lt le v k).1 (qn (stT lt le v k).2) ∧ z = (stT lt le v k).1))
theorem okI_next {lt : Int → Int} {le p n : Int} (hle : 0 ≤ le) (hp : 0 ≤ p) (h : okI lt le p n) : p + 3 ≤ endI lt le p ∧ endI lt le p ≤ le := by
  obtain ⟨h1, h2, h3, h4⟩ := h
  unfold endI at h3 ⊢
  obtain ⟨m, hm⟩ : ∃ m, manyT (atT lt le p) = m + 1 := ⟨manyT (atT lt le p) - 1, by omega⟩
  have hb := plT_b (lt := lt) (le := le) (many := manyT (atT lt le p)) hp (manyT (atT lt le p))
  have h5 : manyT (atT lt le p) ≥ 1 := by omega
  rw [hm] at h3 ⊢
  rw [hm] at hb
  have h6 := plT_le (lt := lt) (many := m + 1) (p := p) hle (k := m) h3
  omega
def okD (v : SV) : Prop := (0 ≤ qn v ∧ qn v ≤ 7) ∧ (0 ≤ qam v ∧ qam v ≤ 99) ∧ (0 ≤ qhe v ∧ qhe v ≤ 9) ∧ (0 ≤ qsa v ∧ qsa v ≤ 9) ∧ (1 ≤ qro v ∧ qro v ≤ 20) ∧ (1 ≤ qfa v ∧ qfa v ≤ 20) ∧ ∀ i : Int, 0 ≤ i → i < qn v → okM (qkd v i) (qsp v i) (qhu v i) (qbe v i)
theorem okV_clearV (v : SV) : okV (clearV v) := ⟨⟨(by decide : (0 : Int) ≤ 0), (by decide : (0 : Int) ≤ 7)⟩, ⟨(by decide : (0 : Int) ≤ 30), (by decide : (30 : Int) ≤ 99)⟩, ⟨(by decide : (0 : Int) ≤ 4), (by decide : (4 : Int) ≤ 9)⟩, ⟨(by decide : (0 : Int) ≤ 1), (by decide : (1 : Int) ≤ 9)⟩, ⟨(by decide : (1 : Int) ≤ 5), (by decide : (5 : Int) ≤ 20)⟩, ⟨(by decide : (1 : Int) ≤ 6), (by decide : (6 : Int) ≤ 20)⟩, fun i h0 h1 => absurd (show i < 0 from h1) (by omega)⟩
theorem okV_tV {x : Int} {v : SV} {a b d e : Int} (hv : okV v) (h : tOk x (qn v) a b d e) : okV (tV x v a b d e) := by
  obtain ⟨hn, ham, hhe, hsa, hro, hfa, hm⟩ := hv
  unfold tV
  rcases h with ⟨hx, h1, h2⟩ | ⟨hx, h1, h2, h3⟩ | ⟨hx, h1⟩
  · rw [if_pos hx]
    refine ⟨⟨?_, ?_⟩, ham, hhe, hsa, hro, hfa, fun y y0 y1 => ?_⟩
    · show 0 ≤ qn v + 1; omega
    · show qn v + 1 ≤ 7; omega
    · have y2 : y < qn v + 1 := y1
      show okM (uI (qkd v) (qn v) a y) (uI (qsp v) (qn v) b y) (uI (qhu v) (qn v) d y) (uI (qbe v) (qn v) e y)
      unfold uI
      by_cases e1 : y = qn v
      · rw [if_pos e1, if_pos e1, if_pos e1, if_pos e1]
        exact h1
      · rw [if_neg e1, if_neg e1, if_neg e1, if_neg e1]
        exact hm y y0 (by omega)
  · rw [if_neg (by omega), if_pos hx]
    exact ⟨hn, h1, h2, h3, hro, hfa, hm⟩
  · rw [if_neg (by omega), if_neg (by omega)]
    split
    · exact ⟨hn, ham, hhe, hsa, h1, hfa, hm⟩
    · exact ⟨hn, ham, hhe, hsa, hro, h1, hm⟩
theorem okV_stT {lt : Int → Int} {le : Int} {v : SV} {k : Nat} (h : ∀ m : Nat, m < k → okI lt le (stT lt le v m).1 (qn (stT lt le v m).2)) : okV (stT lt le v k).2 := by
  induction k with
  | zero => exact okV_clearV v
  | succ k ih => exact okV_tV (ih (fun m hm => h m (by omega))) (h k (by omega)).2.2.2
/-- what an item takes hangs on its own numbers alone -/
theorem tOk_nu {lt : Int → Int} {le p : Int} {nu : Int → Int} (h0 : manyT (atT lt le p) ≠ 0) (h : ∀ k : Nat, k < manyT (atT lt le p) → nu (k : Int) = nuT lt le p k) (v : SV) : (tOk (atT lt le p) (qn v) (nu 0) (nu 1) (nu 2) (nu 3) ↔ tOk (atT lt le p) (qn v) (nuT lt le p 0) (nuT lt le p 1) (nuT lt le p 2) (nuT lt le p 3)) ∧ tV (atT lt le p) v (nu 0) (nu 1) (nu 2) (nu 3) = tV (atT lt le p) v (nuT lt le p 0) (nuT lt le p 1) (nuT lt le p 2) (nuT lt le p 3) := by
  have e0 : nu 0 = nuT lt le p 0 := h 0 (by omega)
  by_cases h1 : atT lt le p = 109
  · have hm : manyT (atT lt le p) = 4 := by unfold manyT; rw [if_pos h1]
    have e1 : nu 1 = nuT lt le p 1 := h 1 (by omega)
    have e2 : nu 2 = nuT lt le p 2 := h 2 (by omega)
    have e3 : nu 3 = nuT lt le p 3 := h 3 (by omega)
    rw [e0, e1, e2, e3]
    exact ⟨Iff.rfl, rfl⟩
  · by_cases h2 : atT lt le p = 112
    · have hm : manyT (atT lt le p) = 3 := by unfold manyT; rw [if_neg h1, if_pos h2]
      have e1 : nu 1 = nuT lt le p 1 := h 1 (by omega)
      have e2 : nu 2 = nuT lt le p 2 := h 2 (by omega)
      unfold tOk tV
      rw [e0, e1, e2]
      refine ⟨?_, by simp only [if_neg h1, if_pos h2]⟩
      constructor
      · rintro (q | q | q)
        · exact absurd q.1 h1
        · exact Or.inr (Or.inl q)
        · exact Or.inr (Or.inr q)
      · rintro (q | q | q)
        · exact absurd q.1 h1
        · exact Or.inr (Or.inl q)
        · exact Or.inr (Or.inr q)
    · unfold tOk tV
      rw [e0]
      refine ⟨?_, by simp only [if_neg h1, if_neg h2]⟩
      constructor
      · rintro (q | q | q)
        · exact absurd q.1 h1
        · exact absurd q.1 h2
        · exact Or.inr (Or.inr q)
      · rintro (q | q | q)
        · exact absurd q.1 h1
        · exact absurd q.1 h2
        · exact Or.inr (Or.inr q)
theorem nuStep {lt : Int → Int} {le p q v : Int} {k : Nat} {nu1 : Int → Int} (hq : plT lt le (manyT (atT lt le p)) p k = q) (hn : ∀ m : Nat, m < k → nu1 (m : Int) = nuT lt le p m) (hv : v = valT lt le q) : ∀ m : Nat, m < k + 1 → uI nu1 (k : Int) v (m : Int) = nuT lt le p m := by
  intro m hm
  unfold uI
  by_cases e : (m : Int) = (k : Int)
  · have e2 : m = k := by omega
    rw [if_pos e, e2, hv]
    unfold nuT
    rw [hq]
  · rw [if_neg e]
    exact hn m (by omega)
theorem okN_up {lt : Int → Int} {le q v k : Int} {nu1 : Int → Int} (h : okN nu1) (hv : v = valT lt le q) (hb : 0 ≤ valT lt le q ∧ valT lt le q ≤ 99) : okN (uI nu1 k v) := by
  intro y y0 y1
  unfold uI
  split
  · rw [hv]; exact hb
  · exact h y y0 y1
