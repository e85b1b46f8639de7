/-- two sittings alike, as far as seven members go -/
def eqv (v w : SV) : Prop := qn v = qn w ∧ qam v = qam w ∧ qhe v = qhe w ∧ qsa v = qsa w ∧ qro v = qro w ∧ qfa v = qfa w ∧ ∀ i : Int, 0 ≤ i → i < 7 → qkd v i = qkd w i ∧ qsp v i = qsp w i ∧ qhu v i = qhu w i ∧ qbe v i = qbe w i ∧ qea v i = qea w i
theorem eqv_rf (v : SV) : eqv v v := ⟨rfl, rfl, rfl, rfl, rfl, rfl, fun _ _ _ => ⟨rfl, rfl, rfl, rfl, rfl⟩⟩
theorem eqv_tr {u v w : SV} (h : eqv u v) (g : eqv v w) : eqv u w := by
  obtain ⟨a1, a2, a3, a4, a5, a6, am⟩ := h
  obtain ⟨b1, b2, b3, b4, b5, b6, bm⟩ := g
  refine ⟨a1.trans b1, a2.trans b2, a3.trans b3, a4.trans b4, a5.trans b5, a6.trans b6, fun i h0 h1 => ?_⟩
  obtain ⟨x1, x2, x3, x4, x5⟩ := am i h0 h1
  obtain ⟨y1, y2, y3, y4, y5⟩ := bm i h0 h1
  exact ⟨x1.trans y1, x2.trans y2, x3.trans y3, x4.trans y4, x5.trans y5⟩
theorem eqv_sy {v w : SV} (h : eqv v w) : eqv w v := by
  obtain ⟨a1, a2, a3, a4, a5, a6, am⟩ := h
  refine ⟨a1.symm, a2.symm, a3.symm, a4.symm, a5.symm, a6.symm, fun i h0 h1 => ?_⟩
  obtain ⟨x1, x2, x3, x4, x5⟩ := am i h0 h1
  exact ⟨x1.symm, x2.symm, x3.symm, x4.symm, x5.symm⟩
theorem eqv_cpV (w v : SV) : eqv (cpV w v) w := by
  refine ⟨rfl, rfl, rfl, rfl, rfl, rfl, fun i h0 h1 => ?_⟩
  have e : ∀ f g : Int → Int, cpI f g 7 i = f i := fun f g => by unfold cpI; rw [if_pos ⟨h0, h1⟩]
  exact ⟨e _ _, e _ _, e _ _, e _ _, e _ _⟩
theorem eqv_okV {v w : SV} (h : eqv v w) (hw : okV w) : okV v := by
  obtain ⟨a1, a2, a3, a4, a5, a6, am⟩ := h
  obtain ⟨hn, ham, hhe, hsa, hro, hfa, hm⟩ := hw
  refine ⟨by rw [a1]; exact hn, by rw [a2]; exact ham, by rw [a3]; exact hhe, by rw [a4]; exact hsa, by rw [a5]; exact hro, by rw [a6]; exact hfa, fun i h0 h1 => ?_⟩
  rw [a1] at h1
  obtain ⟨x1, x2, x3, x4, x5⟩ := am i h0 (by omega)
  rw [x1, x2, x3, x4]
  exact hm i h0 h1
theorem eqv_share {v w : SV} (h : eqv v w) {i : Int} (h0 : 0 ≤ i) (h1 : i < 7) : shareV v i = shareV w i := by
  obtain ⟨a1, a2, a3, a4, a5, a6, am⟩ := h
  obtain ⟨x1, x2, x3, x4, x5⟩ := am i h0 h1
  unfold shareV
  rw [a2, a3, a4, x1, x2, x3, x4]
theorem uI_eq {f g : Int → Int} {k a b i : Int} (h : f i = g i) (e : a = b) : uI f k a i = uI g k b i := by
  unfold uI
  by_cases q : i = k
  · rw [if_pos q, if_pos q, e]
  · rw [if_neg q, if_neg q, h]
theorem eqv_eatN {v w : SV} (h : eqv v w) (k : Nat) (hk : k ≤ 7) : eqv (eatN v k).1 (eatN w k).1 ∧ (eatN v k).2 = (eatN w k).2 := by
  induction k with
  | zero => exact ⟨h, rfl⟩
  | succ k ih =>
    obtain ⟨h2, h3⟩ := ih (by omega)
    have hs := eqv_share h2 (i := (k : Int)) (by omega) (by omega)
    obtain ⟨a1, a2, a3, a4, a5, a6, am⟩ := h2
    obtain ⟨x1, x2, x3, x4, x5⟩ := am (k : Int) (by omega) (by omega)
    refine ⟨⟨a1, ?_, a3, a4, a5, a6, fun i h0 h1 => ?_⟩, ?_⟩
    · show qam (eatN v k).1 - shareV (eatN v k).1 k = qam (eatN w k).1 - shareV (eatN w k).1 k
      rw [a2, hs]
    · obtain ⟨y1, y2, y3, y4, y5⟩ := am i h0 h1
      exact ⟨y1, y2, uI_eq y3 (by rw [x3, hs]), y4, uI_eq y5 (by rw [x5, hs])⟩
    · show (if 0 < shareV (eatN v k).1 k ∧ shareV (eatN v k).1 k = qam (eatN v k).1 then (k : Int) else (eatN v k).2) = (if 0 < shareV (eatN w k).1 k ∧ shareV (eatN w k).1 k = qam (eatN w k).1 then (k : Int) else (eatN w k).2)
      rw [hs, a2, h3]
theorem eqv_waitV {v w : SV} (h : eqv v w) : eqv (waitV v) (waitV w) := by
  obtain ⟨a1, a2, a3, a4, a5, a6, am⟩ := h
  exact ⟨a1, a2, by show max (qhe v - 1) 0 = max (qhe w - 1) 0; rw [a3], a4, a5, a6, am⟩
theorem eqv_roundV {v w : SV} (h : eqv v w) (h7 : qn w ≤ 7) : eqv (roundV v).1 (roundV w).1 ∧ (roundV v).2 = (roundV w).2 := by
  have e := eqv_eatN h (qn w).toNat (by omega)
  unfold roundV
  rw [h.1]
  exact ⟨eqv_waitV e.1, e.2⟩
theorem roundV_n (v : SV) : qn (roundV v).1 = qn v := eatN_n v _
theorem roundsV_n (v : SV) (k : Nat) : qn (roundsV v k).1 = qn v := by
  induction k with
  | zero => rfl
  | succ k ih => exact (roundV_n _).trans ih
theorem eqv_roundsV {v w : SV} (h : eqv v w) (h7 : qn w ≤ 7) (k : Nat) : eqv (roundsV v k).1 (roundsV w k).1 ∧ (roundsV v k).2 = (roundsV w k).2 := by
  induction k with
  | zero => exact ⟨h, rfl⟩
  | succ k ih =>
    have e := eqv_roundV ih.1 (by rw [roundsV_n]; exact h7)
    refine ⟨e.1, ?_⟩
    show (if (roundV (roundsV v k).1).2 = -4 then (roundsV v k).2 else (roundV (roundsV v k).1).2) = (if (roundV (roundsV w k).1).2 = -4 then (roundsV w k).2 else (roundV (roundsV w k).1).2)
    rw [e.2, ih.2]
theorem untilP_eqv {v w : SV} (h : eqv v w) (h7 : qn w ≤ 7) {z : Int} (hz : untilP v z) : untilP w z := by
  have e : ∀ m, qam (roundsV v m).1 = qam (roundsV w m).1 := fun m => (eqv_roundsV h h7 m).1.2.1
  have hr : qro v = qro w := h.2.2.2.2.1
  rcases hz with ⟨k, h1, h2, h3, h4⟩ | ⟨h1, h2⟩
  · exact Or.inl ⟨k, by rw [← hr]; exact h1, by rw [← e]; exact h2, fun m hm => by rw [← e]; exact h3 m hm, h4⟩
  · exact Or.inr ⟨fun m hm => by rw [← e]; exact h1 m (by rw [hr]; exact hm), h2⟩
theorem reachN_eqv {v w : SV} (h : eqv v w) {i : Int} (h0 : 0 ≤ i) (h1 : i < 7) (k : Nat) : reachN v i k = reachN w i k := by
  obtain ⟨a1, a2, a3, a4, a5, a6, am⟩ := h
  obtain ⟨x1, x2, x3, x4, x5⟩ := am i h0 h1
  induction k with
  | zero => rfl
  | succ k ih => unfold reachN; rw [ih, a3, a4, x1, x2, x3, x4]
theorem reachV_eqv {v w : SV} (h : eqv v w) {i : Int} (h0 : 0 ≤ i) (h1 : i < 7) : reachV v i = reachV w i := by
  unfold reachV
  rw [h.2.2.2.2.1]
  exact reachN_eqv h h0 h1 _
theorem reachA_eqv {v w : SV} (h : eqv v w) (k : Nat) (hk : k ≤ 7) : reachA v k = reachA w k := by
  induction k with
  | zero => rfl
  | succ k ih => unfold reachA; rw [ih (by omega), reachV_eqv h (by omega) (by omega)]
theorem passI_eqv {v w : SV} (h : eqv v w) (h7 : qn w ≤ 7) : passI v = passI w := by
  unfold passI
  rw [h.2.1, h.1, reachA_eqv h _ (by omega)]
theorem passI_01 (v : SV) : passI v = 0 ∨ passI v = 1 := by unfold passI; split <;> simp
def saV (v : SV) (x : Int) : SV := (qn v, qam v, qhe v, x, qro v, qfa v, qkd v, qsp v, qhu v, qbe v, qea v)
def heV (v : SV) (x : Int) : SV := (qn v, qam v, x, qsa v, qro v, qfa v, qkd v, qsp v, qhu v, qbe v, qea v)
theorem eqv_saV {v w : SV} (h : eqv v w) (x : Int) : eqv (saV v x) (saV w x) := ⟨h.1, h.2.1, h.2.2.1, rfl, h.2.2.2.2⟩
theorem eqv_heV {v w : SV} (h : eqv v w) (x : Int) : eqv (heV v x) (heV w x) := ⟨h.1, h.2.1, rfl, h.2.2.2⟩
theorem okV_saV {v : SV} (h : okV v) {x : Int} (h0 : 0 ≤ x) (h1 : x ≤ 9) : okV (saV v x) := ⟨h.1, h.2.1, h.2.2.1, ⟨h0, h1⟩, h.2.2.2.2⟩
theorem okV_heV {v : SV} (h : okV v) {x : Int} (h0 : 0 ≤ x) (h1 : x ≤ 9) : okV (heV v x) := ⟨h.1, h.2.1, ⟨h0, h1⟩, h.2.2.2⟩
theorem heV_id (v : SV) : heV v (qhe v) = v := rfl
theorem eqv_fastV {v w : SV} (h : eqv v w) (h7 : qn w ≤ 7) : eqv (fastV v) (fastV w) := by
  obtain ⟨a1, a2, a3, a4, a5, a6, am⟩ := h
  refine ⟨a1, a2, rfl, a4, a5, a6, fun i h0 h1 => ?_⟩
  obtain ⟨x1, x2, x3, x4, x5⟩ := am i h0 h1
  refine ⟨x1, x2, ?_, x4, x5⟩
  show fastN v (qn v).toNat i = fastN w (qn w).toNat i
  rw [fastN_eq, fastN_eq, a1, x3, a6]
theorem eqv_exchV {v w : SV} (h : eqv v w) {i k : Int} (h0 : 0 ≤ i) (h1 : i < 7) (h2 : 0 ≤ k) (h3 : k < 7) : eqv (exchV v i k) (exchV w i k) := by
  obtain ⟨a1, a2, a3, a4, a5, a6, am⟩ := h
  obtain ⟨x1, x2, x3, x4, x5⟩ := am i h0 h1
  obtain ⟨z1, z2, z3, z4, z5⟩ := am k h2 h3
  refine ⟨a1, a2, a3, a4, a5, a6, fun y y0 y1 => ?_⟩
  obtain ⟨u1, u2, u3, u4, u5⟩ := am y y0 y1
  exact ⟨uI_eq (uI_eq u1 z1) x1, uI_eq (uI_eq u2 z2) x2, u3, u4, u5⟩
theorem eqv_cookV {v w : SV} (h : eqv v w) (a : Int) : eqv (cookV v a) (cookV w a) := ⟨h.1, rfl, rfl, h.2.2.2⟩
theorem eqv_saltV {v w : SV} (h : eqv v w) : eqv (saltV v) (saltV w) := ⟨h.1, h.2.1, h.2.2.1, by show min (qsa v + 1) 9 = min (qsa w + 1) 9; rw [h.2.2.2.1], h.2.2.2.2⟩
theorem eqv_liveV {v w : SV} (h : eqv v w) (h7 : qn w ≤ 7) (d : Int) : eqv (liveV v d) (liveV w d) := by
  unfold liveV
  rw [h.2.1]
  split
  · exact (eqv_roundV h h7).1
  · split
    · split
      · exact eqv_cookV h _
      · exact h
    · split
      · split
        · exact eqv_saltV h
        · exact h
      · exact eqv_fastV h h7
theorem liveV_n (v : SV) (d : Int) : qn (liveV v d) = qn v := by
  unfold liveV
  split
  · exact roundV_n v
  · split
    · split <;> rfl
    · split
      · split <;> rfl
      · rfl
theorem sumI_eq {f g : Int → Int} (k : Nat) (h : ∀ i : Int, 0 ≤ i → i < (k : Int) → f i = g i) : sumI f k = sumI g k := by
  induction k with
  | zero => rfl
  | succ k ih => unfold sumI; rw [ih (fun i h0 h1 => h i h0 (by omega)), h (k : Int) (by omega) (by omega)]
theorem sumI_ea {v w : SV} (h : eqv v w) (h7 : qn w ≤ 7) : sumI (qea v) (qn v).toNat = sumI (qea w) (qn w).toNat := by
  rw [h.1]
  exact sumI_eq _ (fun i h0 h1 => (h.2.2.2.2.2.2 i h0 (by omega)).2.2.2.2)
def spoilP (v : SV) (z : Int) : Prop := (∃ k : Nat, qsa v + (k : Int) ≤ 9 ∧ passI (saV v (qsa v + (k : Int))) = 0 ∧ (∀ m : Nat, m < k → passI (saV v (qsa v + (m : Int))) = 1) ∧ z = (k : Int)) ∨ ((∀ m : Nat, qsa v + (m : Int) ≤ 9 → passI (saV v (qsa v + (m : Int))) = 1) ∧ z = -4)
def waitsP (v : SV) (z : Int) : Prop := (∃ k : Nat, k ≤ 9 ∧ passI (heV v (max (qhe v - (k : Int)) 0)) = 1 ∧ (∀ m : Nat, m < k → passI (heV v (max (qhe v - (m : Int)) 0)) = 0) ∧ z = (k : Int)) ∨ ((∀ m : Nat, m ≤ 9 → passI (heV v (max (qhe v - (m : Int)) 0)) = 0) ∧ z = -4)
def fastK (v : SV) : Nat → SV
  | 0 => v
  | k + 1 => fastV (fastK v k)
theorem fastK_n (v : SV) (k : Nat) : qn (fastK v k) = qn v := by
  induction k with
  | zero => rfl
  | succ k ih => exact ih
theorem okV_fastK {v : SV} (h : okV v) (k : Nat) : okV (fastK v k) := by
  induction k with
  | zero => exact h
  | succ k ih => exact okV_fastV ih
theorem eqv_fastK {v w : SV} (h : eqv v w) (h7 : qn w ≤ 7) (k : Nat) : eqv (fastK v k) (fastK w k) := by
  induction k with
  | zero => exact h
  | succ k ih => exact eqv_fastV ih (by rw [fastK_n]; exact h7)
def fastsP (v : SV) (z : Int) : Prop := (∃ k : Nat, k ≤ 10 ∧ passI (fastK v k) = 1 ∧ (∀ m : Nat, m < k → passI (fastK v m) = 0) ∧ z = (k : Int)) ∨ ((∀ m : Nat, m ≤ 10 → passI (fastK v m) = 0) ∧ z = -4)
/-- (a, b) comes before (i, j) -/
def befP (a b i j : Int) : Prop := a < i ∨ (a = i ∧ b < j)
def tradeP (v : SV) (z : Int) : Prop := (passI v = 1 ∧ z = -4) ∨ (passI v = 0 ∧ ((∃ i j : Int, (0 ≤ i ∧ i < j ∧ j < qn v) ∧ passI (exchV v i j) = 1 ∧ (∀ a b : Int, 0 ≤ a → a < b → b < qn v → befP a b i j → passI (exchV v a b) = 0) ∧ z = 10 * i + j) ∨ ((∀ a b : Int, 0 ≤ a → a < b → b < qn v → passI (exchV v a b) = 0) ∧ z = -4)))
def soV (v w : SV) (wh mu : Int → Int) (my : Int) : Prop := ∀ k : Int, 0 ≤ k → k < my → qea w (wh k) - qea v (wh k) = mu k
def mayV (v : SV) (what : Int) (x : Int) : SV := if what = 0 then saV v x else heV v x
def soN (v w : SV) (wh mu : Int → Int) : Nat → Int
  | 0 => 1
  | k + 1 => if soN v w wh mu k = 1 ∧ qea w (wh (k : Int)) - qea v (wh (k : Int)) = mu (k : Int) then 1 else 0
theorem soN_01 (v w : SV) (wh mu : Int → Int) (k : Nat) : soN v w wh mu k = 0 ∨ soN v w wh mu k = 1 := by
  cases k with
  | zero => exact Or.inr rfl
  | succ k => unfold soN; split <;> simp
theorem soN_iff (v w : SV) (wh mu : Int → Int) (k : Nat) : soN v w wh mu k = 1 ↔ soV v w wh mu (k : Int) := by
  induction k with
  | zero => exact ⟨fun _ i h0 h1 => by omega, fun _ => rfl⟩
  | succ k ih =>
    unfold soN
    constructor
    · intro h i h0 h1
      split at h
      · rename_i hc
        by_cases e : i = (k : Int)
        · rw [e]; exact hc.2
        · exact ih.mp hc.1 i h0 (by omega)
      · exact absurd h (by decide)
    · intro h
      rw [if_pos ⟨ih.mpr (fun i h0 h1 => h i h0 (by omega)), h (k : Int) (by omega) (by omega)⟩]
/-- the bits of those values by which all that is seen would be so -/
def mayN (v : SV) (wh mu : Int → Int) (my : Nat) (what : Int) : Nat → Nat
  | 0 => 0
  | k + 1 => if soN v (roundV (mayV v what (k : Int))).1 wh mu my = 1 then mayN v wh mu my what k ||| 2 ^ k else mayN v wh mu my what k
theorem mayN_b (v : SV) (wh mu : Int → Int) (my : Nat) (what : Int) (k : Nat) : mayN v wh mu my what k < 2 ^ k := by
  induction k with
  | zero => exact Nat.one_pos
  | succ k ih =>
    have h1 : mayN v wh mu my what k < 2 ^ (k + 1) := Nat.lt_of_lt_of_le ih (Nat.pow_le_pow_right (by decide) (by omega))
    have h2 : 2 ^ k < 2 ^ (k + 1) := Nat.pow_lt_pow_right (by decide) (by omega)
    unfold mayN
    split
    · exact Nat.or_lt_two_pow h1 h2
    · exact h1
theorem nI_or (a b : Nat) : nI a ||| nI b = nI (a ||| b) := by
  apply Int32.toBitVec_inj.1
  show BitVec.ofNat 32 a ||| BitVec.ofNat 32 b = BitVec.ofNat 32 (a ||| b)
  apply BitVec.eq_of_getLsbD_eq
  intro i hi
  simp [hi]
theorem iI_or (a b : Nat) : iI (a : Int) ||| iI (b : Int) = iI ((a ||| b : Nat) : Int) := by rw [iI_n, iI_n, iI_n, nI_or]
theorem bit_d7 : ∀ i, i < 31 → (1 : Int32) <<< (nI i &&& 31) = nI (2 ^ i) := by decide +kernel
theorem bit_shl31 {i : Nat} (hi : i < 31) : iI 1 <<< (iI (i : Int) &&& 31) = iI ((2 ^ i : Nat) : Int) := by
  rw [iI_n, iI_n]; exact bit_d7 i hi
theorem i2c_d : ∀ n, n < 127 → ((nI n).toUInt32 % 65536).toInt32 = nI n := by decide +kernel
theorem i2c_ok {x : Int} (h0 : 0 ≤ x) (h1 : x ≤ 126) : ((iI x).toUInt32 % 65536).toInt32 = iI x := by
  obtain ⟨n, rfl⟩ := Int.eq_ofNat_of_zero_le h0
  rw [iI_n]
  exact i2c_d n (by omega)
/-- Euclid's steps -/
theorem gcd_step (d r : Nat) : Nat.gcd d r = Nat.gcd r (d % r) := by rw [Nat.gcd_comm d r, Nat.gcd_rec r d, Nat.gcd_comm]
theorem prod_step {d r k M : Nat} (hr : r ≠ 0) (hrd : r ≤ d) (h : d * r * 2 ^ k ≤ M) : r * (d % r) * 2 ^ (k + 1) ≤ M := by
  have h1 : d % r + r ≤ d := by
    have e := Nat.div_add_mod d r
    have h2 : 1 ≤ d / r := Nat.div_pos hrd (by omega)
    have h3 : r * 1 ≤ r * (d / r) := Nat.mul_le_mul_left r h2
    omega
  have h4 : d % r < r := Nat.mod_lt _ (by omega)
  have h5 : 2 * (d % r) ≤ d := by omega
  have h6 : r * (2 * (d % r)) ≤ r * d := Nat.mul_le_mul_left r h5
  have h7 : r * (2 * (d % r)) * 2 ^ k ≤ r * d * 2 ^ k := Nat.mul_le_mul_right _ h6
  calc r * (d % r) * 2 ^ (k + 1) = r * (2 * (d % r)) * 2 ^ k := by rw [Nat.pow_succ]; simp only [Nat.mul_assoc, Nat.mul_comm, Nat.mul_left_comm]
    _ ≤ r * d * 2 ^ k := h7
    _ = d * r * 2 ^ k := by rw [Nat.mul_comm r d]
    _ ≤ M := h
def drawI (z t : Nat) : Int := (((7919 * z + 6151 * t + 1) * (7919 * z + 6151 * t + 1) % 65521 / 8 : Nat) : Int)
def liveN (v : SV) (z : Nat) : Nat → SV
  | 0 => v
  | k + 1 => liveV (liveN v z k) (drawI z k)
theorem liveN_n (v : SV) (z k : Nat) : qn (liveN v z k) = qn v := by
  induction k with
  | zero => rfl
  | succ k ih => exact (liveV_n _ _).trans ih
theorem okV_liveN {v : SV} (h : okV v) (z k : Nat) : okV (liveN v z k) := by
  induction k with
  | zero => exact h
  | succ k ih => exact okV_liveV ih _
theorem eqv_liveN {v w : SV} (h : eqv v w) (h7 : qn w ≤ 7) (z k : Nat) : eqv (liveN v z k) (liveN w z k) := by
  induction k with
  | zero => exact h
  | succ k ih => exact eqv_liveV ih (by rw [liveN_n]; exact h7) _
theorem drawI_b (z t : Nat) : 0 ≤ drawI z t ∧ drawI z t ≤ 8190 := by unfold drawI; omega
def lowT (a b part : Int) : Int := if ((Nat.gcd a.toNat b.toNat : Nat) : Int) = 0 then 0 else (if part = 0 then a else b) / ((Nat.gcd a.toNat b.toNat : Nat) : Int)
theorem setSum_eq {f g : Int → Int} {s : Nat} (k : Nat) (h : ∀ i : Nat, i < k → f (i : Int) = g (i : Int)) : setSum f s k = setSum g s k := by
  induction k with
  | zero => rfl
  | succ k ih => unfold setSum; rw [ih (fun i hi => h i (by omega)), h k (by omega)]
theorem letsI_eq {f g : Int → Int} {n : Nat} {a : Int} (h : ∀ i : Nat, i < n → f (i : Int) = g (i : Int)) : letsI f n a = letsI g n a := by
  funext s
  unfold letsI
  rw [setSum_eq n h]
/-- which sets of members let it pass -/
def letsV (v : SV) : Nat → Int := letsI (reachV v) (qn v).toNat (qam v)
def okW (wh mu : Int → Int) (my n : Int) : Prop := (0 ≤ my ∧ my ≤ 6) ∧ ∀ k : Int, 0 ≤ k → k < my → (0 ≤ wh k ∧ wh k < n) ∧ 0 ≤ mu k ∧ mu k ≤ 18
def okL (ln : Int) (lo : Nat) (pm : Int → Nat) (my : Int) : Prop := (0 ≤ my ∧ my ≤ ln) ∧ (∀ i : Int, 0 ≤ i → i < ln → (lo : Int) ≤ (pm i : Int) ∧ (pm i : Int) < (lo : Int) + ln) ∧ ∀ i j : Int, 0 ≤ i → i < ln → 0 ≤ j → j < ln → pm i = pm j → i = j
/-- all of the class is such as the document tells -/
def okC (c : CS) : Prop := okV (c.1 0) ∧ okT c.2.1.1 c.2.1.2.2 ∧ okN c.2.1.2.1 ∧ okW c.2.2.2.1.1 c.2.2.2.1.2.1 c.2.2.2.1.2.2 (qn (c.1 0)) ∧ okL 8 2 c.2.2.2.2.1.1 c.2.2.2.2.1.2 ∧ okL 2 10 c.2.2.2.2.2.1 c.2.2.2.2.2.2
/-- the same but for what questions are tried on -/
def eqS (c d : CS) : Prop := (∀ j : Nat, j ≠ 1 → d.1 j = c.1 j) ∧ d.2.1.1 = c.2.1.1 ∧ d.2.1.2.2 = c.2.1.2.2 ∧ okN d.2.1.2.1 ∧ d.2.2.2 = c.2.2.2
def putR (c : CS) (g : Int → Nat) (m : Int) : Prop := (c.2.2.2.2.1.2 < 8 ∧ g = c.2.2.2.2.1.1 ∧ m = c.2.2.2.2.1.2) ∨ (c.2.2.2.2.1.2 = 8 ∧ m = 7 ∧ (∀ i : Int, 0 ≤ i → i < 7 → g i = c.2.2.2.2.1.1 (i + 1)) ∧ g 7 = c.2.2.2.2.1.1 0)
def putC (c : CS) (g : Int → Nat) (m : Int) : CS := wU (wS c (g m) (cpV (c.1 0) (c.1 (g m)))) (g, m + 1)
theorem putR_b {c : CS} (h : okL 8 2 c.2.2.2.2.1.1 c.2.2.2.2.1.2) {g : Int → Nat} {m : Int} (hp : putR c g m) : (0 ≤ m ∧ m < 8) ∧ 2 ≤ g m ∧ g m < 10 := by
  obtain ⟨h1, h2, h3⟩ := h
  rcases hp with ⟨a, b, d⟩ | ⟨a, b, d, e⟩
  · subst b; subst d
    have := h2 c.2.2.2.2.1.2 h1.1 a
    omega
  · subst b
    have := h2 0 (by decide) (by decide)
    omega
theorem putC_0 {c : CS} (h : okL 8 2 c.2.2.2.2.1.1 c.2.2.2.2.1.2) {g : Int → Nat} {m : Int} (hp : putR c g m) : (putC c g m).1 0 = c.1 0 := by
  have := putR_b h hp
  show upS c.1 (g m) _ 0 = c.1 0
  exact upS_n _ _ (by omega)
theorem decN_b {L : Nat → Int} {n i : Nat} (hn : n ≤ 7) (hi : i < n) : ∀ k, k ≤ 2 ^ n → 0 ≤ decN L n i k ∧ decN L n i k ≤ 720 * k := by
  intro k
  induction k with
  | zero => intro _; exact ⟨Int.le_refl _, by unfold decN; omega⟩
  | succ k ih =>
    intro hk
    have h1 := ih (by omega)
    unfold decN
    split
    · rename_i hc
      have hp := (pop_lt n (by omega) k (by omega)).2 i hi hc.1
      have h8 := popN_b k
      have hf := facN_b (popN k) (by omega) (n - 1 - popN k) (by omega) (by omega)
      omega
    · omega
theorem tenN_b : ∀ n, n < 8 → 1 ≤ tenN n ∧ tenN n ≤ 10000000 := by decide
theorem casN_b {x : Int} (h0 : 0 ≤ x) (h1 : x ≤ 10) (s : Nat) (k : Nat) : 0 ≤ casN x s k ∧ casN x s k ≤ tenN k := by
  induction k with
  | zero => exact ⟨(by decide : (0 : Int) ≤ 1), Int.le_refl _⟩
  | succ k ih =>
    unfold casN tenN
    have h2 : 0 ≤ (if bitI s k = 1 then x else 10 - x) ∧ (if bitI s k = 1 then x else 10 - x) ≤ 10 := by split <;> omega
    exact ⟨Int.mul_nonneg ih.1 h2.1, Int.mul_le_mul ih.2 h2.2 h2.1 (by have := ih.1; have := ih.2; omega)⟩
theorem likN_b {L : Nat → Int} {x : Int} {n : Nat} (hn : n ≤ 7) (h0 : 0 ≤ x) (h1 : x ≤ 10) (k : Nat) : 0 ≤ likN L x n k ∧ likN L x n k ≤ 10000000 * k := by
  induction k with
  | zero => exact ⟨Int.le_refl _, by unfold likN; omega⟩
  | succ k ih =>
    have h2 := casN_b h0 h1 k n
    have h3 := tenN_b n (by omega)
    unfold likN
    split <;> omega
theorem shareV_18 {v : SV} (hv : okV v) {i : Int} (h0 : 0 ≤ i) (h1 : i < qn v) : shareV v i ≤ 18 := by
  have hi := hv.2.2.2.2.2.2 i h0 h1
  have hb := spoonV_b (sa := qsa v) (he := qhe v) (k := qkd v i) (be := qbe v i) hi.2.1
  unfold shareV
  omega
/-- what a member eats in a round -/
theorem ea_eatN {v : SV} (hv : okV v) {i : Int} (h0 : 0 ≤ i) (k : Nat) (hk : (k : Int) ≤ qn v) : (0 ≤ qea (eatN v k).1 i - qea v i ∧ qea (eatN v k).1 i - qea v i ≤ 18) ∧ ((k : Int) ≤ i → qea (eatN v k).1 i = qea v i) := by
  induction k with
  | zero => exact ⟨⟨by show 0 ≤ qea v i - qea v i; omega, by show qea v i - qea v i ≤ 18; omega⟩, fun _ => rfl⟩
  | succ k ih =>
    have h1 := ih (by omega)
    have hok := okV_eatN hv k (by omega)
    have hs := shareV_b hok (i := (k : Int)) (by omega) (by rw [eatN_n]; omega)
    have hs2 := shareV_18 hok (i := (k : Int)) (by omega) (by rw [eatN_n]; omega)
    have e : qea (eatN v (k + 1)).1 i = uI (qea (eatN v k).1) (k : Int) (qea (eatN v k).1 (k : Int) + shareV (eatN v k).1 (k : Int)) i := rfl
    rw [e]
    unfold uI
    by_cases q : i = (k : Int)
    · have h2 := h1.2 (by omega)
      rw [if_pos q]
      rw [q] at h2
      rw [q]
      exact ⟨by omega, fun h => by omega⟩
    · rw [if_neg q]
      exact ⟨h1.1, fun h => h1.2 (by omega)⟩
theorem ea_roundV {v : SV} (hv : okV v) {i : Int} (h0 : 0 ≤ i) : 0 ≤ qea (roundV v).1 i - qea v i ∧ qea (roundV v).1 i - qea v i ≤ 18 := (ea_eatN hv h0 (qn v).toNat (by have := hv.1; omega)).1
theorem okV_mayV {v : SV} (hv : okV v) {x : Int} (h0 : 0 ≤ x) (h1 : x ≤ 9) (what : Int) : okV (mayV v what x) := by
  unfold mayV
  split
  · exact okV_saV hv h0 h1
  · exact okV_heV hv h0 h1
theorem eqv_mayV {v w : SV} (h : eqv v w) (what x : Int) : eqv (mayV v what x) (mayV w what x) := by
  unfold mayV
  split
  · exact eqv_saV h x
  · exact eqv_heV h x
theorem mayV_ea (v : SV) (what x : Int) : qea (mayV v what x) = qea v ∧ qn (mayV v what x) = qn v := by
  unfold mayV
  split <;> exact ⟨rfl, rfl⟩
def cabI (v : SV) (what : Int) : Int := if fewN (letsV v) (2 ^ (qn v).toNat) = -4 then -4 else if what = 0 then ((popN (fewN (letsV v) (2 ^ (qn v).toNat)).toNat : Nat) : Int) else fewN (letsV v) (2 ^ (qn v).toNat)
def memI (v : SV) (i w : Int) : Int := if i < 0 ∨ qn v ≤ i then -1 else if w = 0 then qkd v i else if w = 1 then qsp v i else if w = 2 then qhu v i else if w = 3 then qbe v i else if w = 4 then qea v i else if w = 5 then shareV v i else -1
def cntI (c : CS) (w : Int) : Int := if w = 0 then qn (c.1 0) else if w = 1 then qam (c.1 0) else if w = 2 then qhe (c.1 0) else if w = 3 then qsa (c.1 0) else if w = 4 then qro (c.1 0) else if w = 5 then sumI (qhu (c.1 0)) (qn (c.1 0)).toNat else if w = 6 then sumI (qea (c.1 0)) (qn (c.1 0)).toNat else if w = 7 then c.2.2.2.1.2.2 else if w = 8 then c.2.2.2.2.1.2 else if w = 9 then c.2.2.2.2.2.2 else if w = 10 then c.2.1.2.2 else -1
def cenI (v : SV) (z n what : Int) : Int := if what = 0 then qam (liveN v z.toNat n.toNat) else sumI (qea (liveN v z.toNat n.toNat)) (qn v).toNat
theorem faultP_c {lt : Int → Int} {le : Int} {v w : SV} {z : Int} (hle : 0 ≤ le) (h : faultP lt le v z w) : (z = -4 ∧ okV w) ∨ (z < le ∧ z ≠ -4 ∧ 0 ≤ z) := by
  obtain ⟨k, hk, h1 | h1⟩ := h
  · exact Or.inl ⟨h1.2.1, by rw [h1.2.2]; exact okV_stT hk⟩
  · have hp : ∀ m : Nat, (∀ q : Nat, q < m → okI lt le (stT lt le v q).1 (qn (stT lt le v q).2)) → 0 ≤ (stT lt le v m).1 := by
      intro m
      induction m with
      | zero => intro _; exact Int.le_refl _
      | succ m ih =>
        intro hq
        have h2 := ih (fun q hq2 => hq q (by omega))
        have h3 := okI_next hle h2 (hq m (by omega))
        show 0 ≤ endI lt le (stT lt le v m).1
        omega
    have h4 := hp k hk
    right
    omega
