def hotV (k : Int) : Int := if k = 1 then 4 else if k = 2 then 7 else if k = 3 then 8 else 9
def spoonV (sa he k sp be : Int) : Int := if be < sa ∨ hotV k < he then 0 else if k = 2 then 2 * sp else if k = 3 then 1 else sp
def shareV (v : SV) (i : Int) : Int := min (min (spoonV (qsa v) (qhe v) (qkd v i) (qsp v i) (qbe v i)) (qhu v i)) (qam v)
/-- a member whose numbers are such as the document tells -/
def okM (k s h b : Int) : Prop := (0 ≤ k ∧ k ≤ 3) ∧ (1 ≤ s ∧ s ≤ 9) ∧ (0 ≤ h ∧ h ≤ 60) ∧ (0 ≤ b ∧ b ≤ 9)
/-- a sitting whose numbers are such as the document tells -/
def okV (v : SV) : Prop := (0 ≤ qn v ∧ qn v ≤ 7) ∧ (0 ≤ qam v ∧ qam v ≤ 99) ∧ (0 ≤ qhe v ∧ qhe v ≤ 9) ∧ (0 ≤ qsa v ∧ qsa v ≤ 9) ∧ (1 ≤ qro v ∧ qro v ≤ 20) ∧ (1 ≤ qfa v ∧ qfa v ≤ 20) ∧ ∀ i : Int, 0 ≤ i → i < qn v → okM (qkd v i) (qsp v i) (qhu v i) (qbe v i)
def outV (a l h : Int) : Int := if a < l ∨ h < a then 1 else 0
theorem nar01 {z : Int} (h : z = 0 ∨ z = 1) : narrow .boolean (.int (iI z)) = .int (iI z) := by
  rcases h with h | h <;> subst h <;> rfl
theorem hotV_b (k : Int) : 4 ≤ hotV k ∧ hotV k ≤ 9 := by unfold hotV; split <;> (try split) <;> (try split) <;> omega
theorem spoonV_b {sa he k sp be : Int} (h : 1 ≤ sp ∧ sp ≤ 9) : 0 ≤ spoonV sa he k sp be ∧ spoonV sa he k sp be ≤ 18 := by unfold spoonV; split <;> (try split) <;> (try split) <;> omega
theorem iI_div {a b : Int} (ha : 0 ≤ a) (ha2 : a < 2147483648) (hb : 0 < b) (hb2 : b < 2147483648) : iI a / iI b = iI (a / b) := by
  obtain ⟨x, rfl⟩ := Int.eq_ofNat_of_zero_le ha
  obtain ⟨y, rfl⟩ := Int.eq_ofNat_of_zero_le (Int.le_of_lt hb)
  rw [← iI_nat, ← iI_nat]
  exact (pk_div (by omega) (by omega) (by omega)).trans (iI_nat (x / y))
theorem iI_rem {a b : Int} (ha : 0 ≤ a) (ha2 : a < 2147483648) (hb : 0 < b) (hb2 : b < 2147483648) : iI a - iI a / iI b * iI b = iI (a % b) := by
  obtain ⟨x, rfl⟩ := Int.eq_ofNat_of_zero_le ha
  obtain ⟨y, rfl⟩ := Int.eq_ofNat_of_zero_le (Int.le_of_lt hb)
  rw [← iI_nat, ← iI_nat]
  exact (pk_rem (by omega) (by omega) (by omega)).trans (iI_nat (x % y))
theorem iI_ne0 {b : Int} (hb : 0 < b) (hb2 : b < 2147483648) : ¬ iI b = 0 := by
  intro h
  have h2 := (iI_inj (a := b) (b := 0) ⟨by omega, by omega⟩ ⟨by decide, by decide⟩).mp h
  omega
theorem shareV_b {v : SV} (hv : okV v) {i : Int} (h0 : 0 ≤ i) (h1 : i < qn v) : 0 ≤ shareV v i ∧ shareV v i ≤ qam v ∧ shareV v i ≤ qhu v i := by
  obtain ⟨hn, ham, hhe, hsa, hro, hfa, hm⟩ := hv
  have hi := hm i h0 h1
  have hb := spoonV_b (sa := qsa v) (he := qhe v) (k := qkd v i) (be := qbe v i) hi.2.1
  have h3 := hi.2.2.1
  unfold shareV
  omega
/-- member i eats -/
def eatS (p : SV × Int) (i : Int) : SV × Int :=
  ((qn p.1, qam p.1 - shareV p.1 i, qhe p.1, qsa p.1, qro p.1, qfa p.1, qkd p.1, qsp p.1, uI (qhu p.1) i (qhu p.1 i - shareV p.1 i), qbe p.1, uI (qea p.1) i (qea p.1 i + shareV p.1 i)), if 0 < shareV p.1 i ∧ shareV p.1 i = qam p.1 then i else p.2)
def eatN (v : SV) : Nat → SV × Int
  | 0 => (v, -4)
  | k + 1 => eatS (eatN v k) (k : Int)
def waitV (v : SV) : SV := (qn v, qam v, max (qhe v - 1) 0, qsa v, qro v, qfa v, qkd v, qsp v, qhu v, qbe v, qea v)
def saltV (v : SV) : SV := (qn v, qam v, qhe v, min (qsa v + 1) 9, qro v, qfa v, qkd v, qsp v, qhu v, qbe v, qea v)
def cookV (v : SV) (a : Int) : SV := (qn v, a, 9, qsa v, qro v, qfa v, qkd v, qsp v, qhu v, qbe v, qea v)
def clearV (v : SV) : SV := (0, 30, 4, 1, 5, 6, qkd v, qsp v, qhu v, qbe v, qea v)
def exchV (v : SV) (i k : Int) : SV := (qn v, qam v, qhe v, qsa v, qro v, qfa v, uI (uI (qkd v) i (qkd v k)) k (qkd v i), uI (uI (qsp v) i (qsp v k)) k (qsp v i), qhu v, qbe v, qea v)
/-- what takeOver leaves in v of w -/
def cpV (w v : SV) : SV := (qn w, qam w, qhe w, qsa w, qro w, qfa w, cpI (qkd w) (qkd v) 7, cpI (qsp w) (qsp v) 7, cpI (qhu w) (qhu v) 7, cpI (qbe w) (qbe v) 7, cpI (qea w) (qea v) 7)
def roundV (v : SV) : SV × Int := (waitV (eatN v (qn v).toNat).1, (eatN v (qn v).toNat).2)
/-- k rounds, and who scraped last in them -/
def roundsV (v : SV) : Nat → SV × Int
  | 0 => (v, -4)
  | k + 1 => ((roundV (roundsV v k).1).1, if (roundV (roundsV v k).1).2 = -4 then (roundsV v k).2 else (roundV (roundsV v k).1).2)
def fastN (v : SV) : Nat → Int → Int
  | 0 => qhu v
  | k + 1 => uI (fastN v k) (k : Int) (min (fastN v k (k : Int) + qfa v) 60)
def fastV (v : SV) : SV := (qn v, qam v, 0, qsa v, qro v, qfa v, qkd v, qsp v, fastN v (qn v).toNat, qbe v, qea v)
def sumI (g : Int → Int) : Nat → Int
  | 0 => 0
  | k + 1 => sumI g k + g (k : Int)
/-- what member i would eat in k rounds of a pot that is never empty -/
def reachN (v : SV) (i : Int) : Nat → Int
  | 0 => 0
  | k + 1 => reachN v i k + min (spoonV (qsa v) (qhe v - (k : Int)) (qkd v i) (qsp v i) (qbe v i)) (qhu v i - reachN v i k)
def reachV (v : SV) (i : Int) : Int := reachN v i (qro v).toNat
theorem reachN_b {v : SV} {i : Int} (hs : 1 ≤ qsp v i ∧ qsp v i ≤ 9) (hu : 0 ≤ qhu v i) (k : Nat) : 0 ≤ reachN v i k ∧ reachN v i k ≤ qhu v i := by
  induction k with
  | zero => exact ⟨Int.le_refl _, hu⟩
  | succ k ih =>
    have hb := spoonV_b (sa := qsa v) (he := qhe v - (k : Int)) (k := qkd v i) (be := qbe v i) hs
    unfold reachN
    omega
theorem reachV_b {v : SV} (hv : okV v) {i : Int} (h0 : 0 ≤ i) (h1 : i < qn v) : 0 ≤ reachV v i ∧ reachV v i ≤ 60 := by
  have hi := hv.2.2.2.2.2.2 i h0 h1
  have hb := reachN_b hi.2.1 hi.2.2.1.1 (qro v).toNat
  have h3 := hi.2.2.1.2
  unfold reachV
  omega
def reachA (v : SV) : Nat → Int
  | 0 => 0
  | k + 1 => reachA v k + reachV v (k : Int)
theorem reachA_b {v : SV} (hv : okV v) (k : Nat) (hk : (k : Int) ≤ qn v) : 0 ≤ reachA v k ∧ reachA v k ≤ 60 * k := by
  induction k with
  | zero => exact ⟨Int.le_refl _, by unfold reachA; omega⟩
  | succ k ih =>
    have hb := reachV_b hv (i := (k : Int)) (by omega) (by omega)
    have := ih (by omega)
    unfold reachA
    omega
def passV (v : SV) : Prop := qam v ≤ reachA v (qn v).toNat
theorem uI_ok {p : Int → Prop} {g : Int → Int} {k v : Int} : (∀ i, (i = k → p i) → True) → True := fun _ => trivial
theorem okV_eatS {v : SV} (hv : okV v) {i : Int} (h0 : 0 ≤ i) (h1 : i < qn v) (s : Int) : okV (eatS (v, s) i).1 := by
  have hb := shareV_b hv h0 h1
  obtain ⟨hn, ham, hhe, hsa, hro, hfa, hm⟩ := hv
  refine ⟨hn, ⟨?_, ?_⟩, hhe, hsa, hro, hfa, fun y y0 y1 => ?_⟩
  · show 0 ≤ qam v - shareV v i; omega
  · show qam v - shareV v i ≤ 99; omega
  · have hy := hm y y0 y1
    refine ⟨hy.1, hy.2.1, ?_, hy.2.2.2⟩
    show 0 ≤ uI (qhu v) i (qhu v i - shareV v i) y ∧ uI (qhu v) i (qhu v i - shareV v i) y ≤ 60
    have h3 := hy.2.2.1
    unfold uI
    by_cases e : y = i
    · subst e
      rw [if_pos rfl]
      omega
    · rw [if_neg e]
      exact h3
theorem eatN_n (v : SV) (k : Nat) : qn (eatN v k).1 = qn v := by
  induction k with
  | zero => rfl
  | succ k ih => exact ih
theorem okV_eatN {v : SV} (hv : okV v) (k : Nat) (hk : (k : Int) ≤ qn v) : okV (eatN v k).1 := by
  induction k with
  | zero => exact hv
  | succ k ih => exact okV_eatS (ih (by omega)) (by omega) (by rw [eatN_n]; omega) _
theorem okV_waitV {v : SV} (hv : okV v) : okV (waitV v) := by
  obtain ⟨hn, ham, hhe, hsa, hro, hfa, hm⟩ := hv
  refine ⟨hn, ham, ⟨?_, ?_⟩, hsa, hro, hfa, hm⟩
  · show 0 ≤ max (qhe v - 1) 0; omega
  · show max (qhe v - 1) 0 ≤ 9; omega
theorem okV_roundV {v : SV} (hv : okV v) : okV (roundV v).1 := okV_waitV (okV_eatN hv _ (by have := hv.1; omega))
theorem okV_roundsV {v : SV} (hv : okV v) (k : Nat) : okV (roundsV v k).1 := by
  induction k with
  | zero => exact hv
  | succ k ih => exact okV_roundV ih
theorem scr_eatN (v : SV) (k : Nat) : -4 ≤ (eatN v k).2 ∧ (eatN v k).2 < (k : Int) ∧ ((eatN v k).2 = -4 ∨ 0 ≤ (eatN v k).2) := by
  induction k with
  | zero => exact ⟨Int.le_refl _, by show (-4 : Int) < 0; decide, Or.inl rfl⟩
  | succ k ih =>
    show -4 ≤ (if _ then (k : Int) else (eatN v k).2) ∧ (if _ then (k : Int) else (eatN v k).2) < _ ∧ _
    split
    · rename_i h
      refine ⟨by omega, by omega, Or.inr ?_⟩
      show 0 ≤ (if _ then (k : Int) else (eatN v k).2)
      rw [if_pos h]
      omega
    · rename_i h
      refine ⟨by omega, by omega, ?_⟩
      show (if _ then (k : Int) else (eatN v k).2) = -4 ∨ 0 ≤ (if _ then (k : Int) else (eatN v k).2)
      rw [if_neg h]
      exact ih.2.2
theorem scr_roundV {v : SV} (hv : okV v) : -4 ≤ (roundV v).2 ∧ (roundV v).2 < 7 := by
  have h := scr_eatN v (qn v).toNat
  have := hv.1
  unfold roundV
  dsimp only
  omega
theorem scr_roundsV {v : SV} (hv : okV v) (k : Nat) : -4 ≤ (roundsV v k).2 ∧ (roundsV v k).2 < 7 := by
  induction k with
  | zero => exact ⟨(by decide : (-4 : Int) ≤ -4), (by decide : (-4 : Int) < 7)⟩
  | succ k ih =>
    have h := scr_roundV (okV_roundsV hv k)
    unfold roundsV
    dsimp only
    split <;> omega
theorem outV_c {z a l h : Int} (e : z = outV a l h) : (z = 1 ∧ (a < l ∨ h < a)) ∨ (z = 0 ∧ l ≤ a ∧ a ≤ h) := by
  unfold outV at e
  split at e <;> omega
theorem eatS_y {v : SV} {s i : Int} (h : 0 < shareV v i ∧ shareV v i = qam v) : eatS (v, s) i = ((qn v, qam v - shareV v i, qhe v, qsa v, qro v, qfa v, qkd v, qsp v, uI (qhu v) i (qhu v i - shareV v i), qbe v, uI (qea v) i (qea v i + shareV v i)), i) := by
  unfold eatS
  rw [if_pos h]
theorem eatS_n {v : SV} {s i : Int} (h : ¬ (0 < shareV v i ∧ shareV v i = qam v)) : eatS (v, s) i = ((qn v, qam v - shareV v i, qhe v, qsa v, qro v, qfa v, qkd v, qsp v, uI (qhu v) i (qhu v i - shareV v i), qbe v, uI (qea v) i (qea v i + shareV v i)), s) := by
  unfold eatS
  rw [if_neg h]
theorem roundsV_ro (v : SV) (k : Nat) : qro (roundsV v k).1 = qro v := by
  have e : ∀ (u : SV) (m : Nat), qro (eatN u m).1 = qro u := by
    intro u m
    induction m with
    | zero => rfl
    | succ m ih => exact ih
  induction k with
  | zero => rfl
  | succ k ih => exact (e _ _).trans ih
/-- behind how many rounds the pot is empty -/
def untilP (v : SV) (z : Int) : Prop := (∃ k : Nat, (k : Int) ≤ qro v ∧ qam (roundsV v k).1 = 0 ∧ (∀ m : Nat, m < k → qam (roundsV v m).1 ≠ 0) ∧ z = (k : Int)) ∨ ((∀ m : Nat, (m : Int) ≤ qro v → qam (roundsV v m).1 ≠ 0) ∧ z = -4)
def passI (v : SV) : Int := if qam v ≤ reachA v (qn v).toNat then 1 else 0
theorem fastN_eq (v : SV) (k : Nat) (y : Int) : fastN v k y = if 0 ≤ y ∧ y < (k : Int) then min (qhu v y + qfa v) 60 else qhu v y := by
  induction k with
  | zero => rw [if_neg (by omega)]; rfl
  | succ k ih =>
    show uI (fastN v k) (k : Int) (min (fastN v k (k : Int) + qfa v) 60) y = _
    unfold uI
    by_cases h : y = (k : Int)
    · have e : fastN v k (k : Int) = qhu v (k : Int) := by rw [← h, ih, if_neg (by omega)]
      rw [if_pos h, if_pos (by omega), e, h]
    · rw [if_neg h, ih]
      by_cases h2 : 0 ≤ y ∧ y < (k : Int)
      · rw [if_pos h2, if_pos (by omega)]
      · rw [if_neg h2, if_neg (by omega)]
theorem okV_fastV {v : SV} (hv : okV v) : okV (fastV v) := by
  obtain ⟨hn, ham, hhe, hsa, hro, hfa, hm⟩ := hv
  refine ⟨hn, ham, ⟨(by decide : (0 : Int) ≤ 0), (by decide : (0 : Int) ≤ 9)⟩, hsa, hro, hfa, fun y y0 y1 => ?_⟩
  have hy := hm y y0 y1
  refine ⟨hy.1, hy.2.1, ?_, hy.2.2.2⟩
  show 0 ≤ fastN v (qn v).toNat y ∧ fastN v (qn v).toNat y ≤ 60
  rw [fastN_eq]
  have h3 := hy.2.2.1
  split <;> omega
def liveV (v : SV) (d : Int) : SV := if d % 4 = 0 then (roundV v).1 else if d % 4 = 1 then (if qam v < d / 4 % 60 then cookV v (d / 4 % 60) else v) else if d % 4 = 2 then (if d / 4 % 3 = 0 then saltV v else v) else fastV v
theorem okV_cookV {v : SV} (hv : okV v) {a : Int} (h0 : 0 ≤ a) (h1 : a ≤ 99) : okV (cookV v a) := ⟨hv.1, ⟨h0, h1⟩, ⟨(by decide : (0 : Int) ≤ 9), (by decide : (9 : Int) ≤ 9)⟩, hv.2.2.2⟩
theorem okV_saltV {v : SV} (hv : okV v) : okV (saltV v) := by
  obtain ⟨hn, ham, hhe, hsa, hro, hfa, hm⟩ := hv
  refine ⟨hn, ham, hhe, ⟨?_, ?_⟩, hro, hfa, hm⟩
  · show 0 ≤ min (qsa v + 1) 9; omega
  · show min (qsa v + 1) 9 ≤ 9; omega
theorem okV_liveV {v : SV} (hv : okV v) (d : Int) : okV (liveV v d) := by
  unfold liveV
  split
  · exact okV_roundV hv
  · split
    · split
      · exact okV_cookV hv (by omega) (by omega)
      · exact hv
    · split
      · split
        · exact okV_saltV hv
        · exact hv
      · exact okV_fastV hv
theorem okV_cpV {w v : SV} (hw : okV w) : okV (cpV w v) := by
  obtain ⟨hn, ham, hhe, hsa, hro, hfa, hm⟩ := hw
  refine ⟨hn, ham, hhe, hsa, hro, hfa, fun y y0 y1 => ?_⟩
  have hy := hm y y0 y1
  have y2 : y < qn w := y1
  have e : ∀ f g : Int → Int, cpI f g 7 y = f y := fun f g => by unfold cpI; rw [if_pos (by omega)]
  show okM (cpI (qkd w) (qkd v) 7 y) (cpI (qsp w) (qsp v) 7 y) (cpI (qhu w) (qhu v) 7 y) (cpI (qbe w) (qbe v) 7 y)
  rw [e, e, e, e]
  exact hy
theorem okV_exchV {v : SV} (hv : okV v) {i k : Int} (h0 : 0 ≤ i) (h1 : i < qn v) (h2 : 0 ≤ k) (h3 : k < qn v) : okV (exchV v i k) := by
  obtain ⟨hn, ham, hhe, hsa, hro, hfa, hm⟩ := hv
  refine ⟨hn, ham, hhe, hsa, hro, hfa, fun y y0 y1 => ?_⟩
  have hy := hm y y0 y1
  have hi := hm i h0 h1
  have hk := hm k h2 h3
  show okM (uI (uI (qkd v) i (qkd v k)) k (qkd v i) y) (uI (uI (qsp v) i (qsp v k)) k (qsp v i) y) (qhu v y) (qbe v y)
  unfold uI
  by_cases e1 : y = k
  · rw [if_pos e1, if_pos e1]
    exact ⟨hi.1, hi.2.1, hy.2.2.1, hy.2.2.2⟩
  · rw [if_neg e1, if_neg e1]
    by_cases e2 : y = i
    · rw [if_pos e2, if_pos e2]
      exact ⟨hk.1, hk.2.1, hy.2.2.1, hy.2.2.2⟩
    · rw [if_neg e2, if_neg e2]
      exact hy
def memV (v : SV) (k s h b : Int) : SV := (qn v + 1, qam v, qhe v, qsa v, qro v, qfa v, uI (qkd v) (qn v) k, uI (qsp v) (qn v) s, uI (qhu v) (qn v) h, uI (qbe v) (qn v) b, uI (qea v) (qn v) 0)
