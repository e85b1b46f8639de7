/-- the reference's cells hold a sitting -/
def mR (td ss : Int → Int) (v : SV) : Prop := td 0 = qn v ∧ ss 28 = qam v ∧ ss 29 = qhe v ∧ ss 30 = qsa v ∧ td 1 = qro v ∧ td 2 = qfa v ∧ ∀ i : Int, 0 ≤ i → i < qn v → ss i = qkd v i ∧ ss (7 + i) = qsp v i ∧ ss (14 + i) = qhu v i ∧ td (3 + i) = qbe v i ∧ ss (21 + i) = qea v i
theorem mR_eqv {td ss : Int → Int} {v w : SV} (h : mR td ss v) (h7 : qn v ≤ 7) (e : eqv v w) : mR td ss w := by
  obtain ⟨h1, h2, h3, h4, h5, h6, hm⟩ := h
  obtain ⟨a1, a2, a3, a4, a5, a6, am⟩ := e
  refine ⟨h1.trans a1, h2.trans a2, h3.trans a3, h4.trans a4, h5.trans a5, h6.trans a6, fun i h0 hi => ?_⟩
  rw [← a1] at hi
  obtain ⟨x1, x2, x3, x4, x5⟩ := hm i h0 hi
  obtain ⟨y1, y2, y3, y4, y5⟩ := am i h0 (by omega)
  exact ⟨x1.trans y1, x2.trans y2, x3.trans y3, x4.trans y4, x5.trans y5⟩
/-- the same numbers in the first 31 places -/
theorem mR_31 {td ss s2 : Int → Int} {v : SV} (h : mR td ss v) (h7 : qn v ≤ 7) (e : ∀ i : Int, 0 ≤ i → i < 31 → s2 i = ss i) : mR td s2 v := by
  obtain ⟨h1, h2, h3, h4, h5, h6, hm⟩ := h
  refine ⟨h1, (e 28 (by decide) (by decide)).trans h2, (e 29 (by decide) (by decide)).trans h3, (e 30 (by decide) (by decide)).trans h4, h5, h6, fun i h0 hi => ?_⟩
  obtain ⟨x1, x2, x3, x4, x5⟩ := hm i h0 hi
  exact ⟨(e i h0 (by omega)).trans x1, (e (7 + i) (by omega) (by omega)).trans x2, (e (14 + i) (by omega) (by omega)).trans x3, x4, (e (21 + i) (by omega) (by omega)).trans x5⟩
def inI (a l h : Int) : Int := if l ≤ a ∧ a ≤ h then 1 else 0
theorem inI_c {z a l h : Int} (e : z = inI a l h) : (z = 1 ∧ l ≤ a ∧ a ≤ h) ∨ (z = 0 ∧ ¬ (l ≤ a ∧ a ≤ h)) := by
  unfold inI at e
  split at e <;> omega
def popK (s : Nat) : Nat → Nat
  | 0 => 0
  | k + 1 => popK s k + bitI s k
theorem popK_7 (s : Nat) : popK s 7 = popN s := by unfold popN; simp only [popK]; omega
theorem all_d : ∀ n, n < 8 → (1 : Int32) <<< (nI n &&& 31) - 1 = nI (2 ^ n - 1) := by decide +kernel
theorem bit_all : ∀ n, n < 8 → ∀ k, k < n → bitI (2 ^ n - 1) k = 1 := by decide
/-- member k of the set s eats -/
def eatQS (s : Nat) (p : SV × Int × Int) (k : Nat) : SV × Int × Int :=
  let m := if bitI s k = 1 then shareV p.1 (k : Int) else 0
  ((qn p.1, qam p.1 - m, qhe p.1, qsa p.1, qro p.1, qfa p.1, qkd p.1, qsp p.1, uI (qhu p.1) (k : Int) (qhu p.1 (k : Int) - m), qbe p.1, uI (qea p.1) (k : Int) (qea p.1 (k : Int) + m)), p.2.1 + m, if 0 < m ∧ qam p.1 - m = 0 then (k : Int) else p.2.2)
def eatQ (v : SV) (s : Nat) : Nat → SV × Int × Int
  | 0 => (v, 0, -4)
  | k + 1 => eatQS s (eatQ v s k) k
def roundQ (v : SV) (s : Nat) : SV := waitV (eatQ v s (qn v).toNat).1
def roundsQ (v : SV) (s : Nat) : Nat → SV
  | 0 => v
  | k + 1 => roundQ (roundsQ v s k) s
theorem eatQ_n (v : SV) (s k : Nat) : qn (eatQ v s k).1 = qn v := by
  induction k with
  | zero => rfl
  | succ k ih => exact ih
theorem roundsQ_n (v : SV) (s k : Nat) : qn (roundsQ v s k) = qn v := by
  induction k with
  | zero => rfl
  | succ k ih => exact (eatQ_n _ _ _).trans ih
theorem okV_eatQS {p : SV × Int × Int} (hv : okV p.1) (s k : Nat) (hk : (k : Int) < qn p.1) : okV (eatQS s p k).1 := by
  have hb := shareV_b hv (i := (k : Int)) (by omega) hk
  obtain ⟨hn, ham, hhe, hsa, hro, hfa, hm⟩ := hv
  have hk3 := (hm (k : Int) (by omega) hk).2.2.1
  by_cases hbit : bitI s k = 1
  · have e : (eatQS s p k).1 = (qn p.1, qam p.1 - shareV p.1 (k : Int), qhe p.1, qsa p.1, qro p.1, qfa p.1, qkd p.1, qsp p.1, uI (qhu p.1) (k : Int) (qhu p.1 (k : Int) - shareV p.1 (k : Int)), qbe p.1, uI (qea p.1) (k : Int) (qea p.1 (k : Int) + shareV p.1 (k : Int))) := by
      unfold eatQS
      simp only [if_pos hbit]
    rw [e]
    refine ⟨hn, ⟨?_, ?_⟩, hhe, hsa, hro, hfa, fun y y0 y1 => ?_⟩
    · show 0 ≤ qam p.1 - shareV p.1 (k : Int); omega
    · show qam p.1 - shareV p.1 (k : Int) ≤ 99; omega
    · have hy := hm y y0 y1
      refine ⟨hy.1, hy.2.1, ?_, hy.2.2.2⟩
      show 0 ≤ uI (qhu p.1) (k : Int) (qhu p.1 (k : Int) - shareV p.1 (k : Int)) y ∧ uI (qhu p.1) (k : Int) (qhu p.1 (k : Int) - shareV p.1 (k : Int)) y ≤ 60
      have h3 := hy.2.2.1
      unfold uI
      split <;> omega
  · have e : (eatQS s p k).1 = (qn p.1, qam p.1 - 0, qhe p.1, qsa p.1, qro p.1, qfa p.1, qkd p.1, qsp p.1, uI (qhu p.1) (k : Int) (qhu p.1 (k : Int) - 0), qbe p.1, uI (qea p.1) (k : Int) (qea p.1 (k : Int) + 0)) := by
      unfold eatQS
      simp only [if_neg hbit]
    rw [e]
    refine ⟨hn, ⟨?_, ?_⟩, hhe, hsa, hro, hfa, fun y y0 y1 => ?_⟩
    · show 0 ≤ qam p.1 - 0; omega
    · show qam p.1 - 0 ≤ 99; omega
    · have hy := hm y y0 y1
      refine ⟨hy.1, hy.2.1, ?_, hy.2.2.2⟩
      show 0 ≤ uI (qhu p.1) (k : Int) (qhu p.1 (k : Int) - 0) y ∧ uI (qhu p.1) (k : Int) (qhu p.1 (k : Int) - 0) y ≤ 60
      have h3 := hy.2.2.1
      unfold uI
      split <;> omega
theorem okV_eatQ {v : SV} (hv : okV v) (s k : Nat) (hk : (k : Int) ≤ qn v) : okV (eatQ v s k).1 := by
  induction k with
  | zero => exact hv
  | succ k ih => exact okV_eatQS (ih (by omega)) s k (by rw [eatQ_n]; omega)
theorem okV_roundQ {v : SV} (hv : okV v) (s : Nat) : okV (roundQ v s) := okV_waitV (okV_eatQ hv s _ (by have := hv.1; omega))
theorem okV_roundsQ {v : SV} (hv : okV v) (s k : Nat) : okV (roundsQ v s k) := by
  induction k with
  | zero => exact hv
  | succ k ih => exact okV_roundQ ih s
/-- all of them: as the class' round -/
theorem eatQ_all {v : SV} (h7 : qn v ≤ 7) (k : Nat) (hk : (k : Int) ≤ qn v) : (eatQ v (2 ^ (qn v).toNat - 1) k).1 = (eatN v k).1 ∧ (eatQ v (2 ^ (qn v).toNat - 1) k).2.2 = (eatN v k).2 := by
  induction k with
  | zero => exact ⟨rfl, rfl⟩
  | succ k ih =>
    obtain ⟨h1, h2⟩ := ih (by omega)
    have hb := bit_all (qn v).toNat (by omega) k (by omega)
    show (eatQS _ (eatQ v _ k) k).1 = (eatS (eatN v k) (k : Int)).1 ∧ (eatQS _ (eatQ v _ k) k).2.2 = (eatS (eatN v k) (k : Int)).2
    unfold eatQS eatS
    simp only [if_pos hb, h1, h2]
    refine ⟨trivial, ?_⟩
    by_cases h3 : 0 < shareV (eatN v k).1 (k : Int) ∧ shareV (eatN v k).1 (k : Int) = qam (eatN v k).1
    · rw [if_pos h3, if_pos (by omega)]
    · rw [if_neg h3, if_neg (by omega)]
theorem roundQ_all {v : SV} (hv : okV v) : roundQ v (2 ^ (qn v).toNat - 1) = (roundV v).1 := by
  unfold roundQ roundV
  rw [(eatQ_all (by have := hv.1; omega) (qn v).toNat (by have := hv.1; omega)).1]
theorem roundsQ_all {v : SV} (hv : okV v) (k : Nat) : roundsQ v (2 ^ (qn v).toNat - 1) k = (roundsV v k).1 := by
  induction k with
  | zero => rfl
  | succ k ih =>
    have h2 := roundQ_all (okV_roundsV hv k)
    rw [roundsV_n] at h2
    show roundQ (roundsQ v _ k) _ = _
    rw [ih]
    exact h2
theorem sum_eatQ (v : SV) (s k : Nat) : (eatQ v s k).2.1 = qam v - qam (eatQ v s k).1 := by
  induction k with
  | zero => show (0 : Int) = qam v - qam v; omega
  | succ k ih =>
    show (eatQ v s k).2.1 + _ = qam v - (qam (eatQ v s k).1 - _)
    rw [ih]
    omega
/-- one member eats, in the reference's cells -/
theorem mR_eat {td ss : Int → Int} {p : SV} {k m : Int} (h : mR td ss p) (h7 : qn p ≤ 7) (h0 : 0 ≤ k) (h1 : k < qn p) : mR td (uI (uI (uI ss (14 + k) (ss (14 + k) - m)) (21 + k) (uI ss (14 + k) (ss (14 + k) - m) (21 + k) + m)) 28 (uI (uI ss (14 + k) (ss (14 + k) - m)) (21 + k) (uI ss (14 + k) (ss (14 + k) - m) (21 + k) + m) 28 - m)) (qn p, qam p - m, qhe p, qsa p, qro p, qfa p, qkd p, qsp p, uI (qhu p) k (qhu p k - m), qbe p, uI (qea p) k (qea p k + m)) := by
  obtain ⟨a1, a2, a3, a4, a5, a6, hm⟩ := h
  obtain ⟨x1, x2, x3, x4, x5⟩ := hm k h0 h1
  have e1 : uI ss (14 + k) (ss (14 + k) - m) (21 + k) = ss (21 + k) := uI_n _ _ (by omega)
  have e2 : uI (uI ss (14 + k) (ss (14 + k) - m)) (21 + k) (ss (21 + k) + m) 28 = ss 28 := by rw [uI_n _ _ (by omega), uI_n _ _ (by omega)]
  rw [e1, e2]
  refine ⟨a1, ?_, ?_, ?_, a5, a6, fun i i0 i1 => ?_⟩
  · rw [uI_s, a2]; rfl
  · rw [uI_n _ _ (by omega), uI_n _ _ (by omega), uI_n _ _ (by omega)]; exact a3
  · rw [uI_n _ _ (by omega), uI_n _ _ (by omega), uI_n _ _ (by omega)]; exact a4
  · have i2 : i < qn p := i1
    obtain ⟨y1, y2, y3, y4, y5⟩ := hm i i0 i2
    refine ⟨?_, ?_, ?_, y4, ?_⟩
    · rw [uI_n _ _ (by omega), uI_n _ _ (by omega), uI_n _ _ (by omega)]; exact y1
    · rw [uI_n _ _ (by omega), uI_n _ _ (by omega), uI_n _ _ (by omega)]; exact y2
    · rw [uI_n _ _ (by omega), uI_n _ _ (by omega)]
      show uI ss (14 + k) _ (14 + i) = uI (qhu p) k (qhu p k - m) i
      unfold uI
      by_cases e : i = k
      · rw [if_pos (by omega), if_pos e, x3]
      · rw [if_neg (by omega), if_neg e]; exact y3
    · rw [uI_n _ _ (by omega)]
      show uI (uI ss (14 + k) _) (21 + k) _ (21 + i) = uI (qea p) k (qea p k + m) i
      by_cases e : i = k
      · rw [e, uI_s, uI_s, x5]
      · rw [uI_n _ _ (by omega), uI_n _ _ (by omega), uI_n _ _ e]; exact y5
