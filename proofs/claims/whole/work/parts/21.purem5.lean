theorem untilQ_b {v : SV} (hv : okV v) {s : Nat} {z : Int} (h : untilQ v s z) : -4 ≤ z ∧ z ≤ 20 := by
  have := hv.2.2.2.2.1
  rcases h with ⟨k, h1, _, _, h4⟩ | ⟨_, h2⟩ <;> omega
theorem okV_sa2 {v : SV} (hv : okV v) {x : Int} (h0 : 0 ≤ x) (h1 : x ≤ 9) : okV (saV v x) := okV_saV hv h0 h1
def fastsJ (v : SV) (k : Nat) (fd : Int) : Prop := (fd = -4 ∧ ∀ m : Nat, m < k → passI (fastK v m) = 0) ∨ ((0 ≤ fd ∧ fd ≤ 10) ∧ fastsP v fd)
theorem fastsJ_e {v : SV} {k : Nat} {fd : Int} (h : fastsJ v k fd) (h2 : 11 ≤ k ∨ fd ≠ -4) : fastsP v fd := by
  rcases h with ⟨a, b⟩ | ⟨_, h⟩
  · exact Or.inr ⟨fun m hm => b m (by omega), a⟩
  · exact h
theorem fastsJ_y {v : SV} {k : Nat} (h : fastsJ v k (-4)) (hp : passI (fastK v k) = 1) (hk : k ≤ 10) : fastsJ v (k + 1) (k : Int) := by
  rcases h with ⟨a, b⟩ | ⟨h, _⟩
  · exact Or.inr ⟨by omega, Or.inl ⟨k, hk, hp, b, rfl⟩⟩
  · omega
theorem fastsJ_n {v : SV} {k : Nat} (h : fastsJ v k (-4)) (hp : passI (fastK v k) = 0) : fastsJ v (k + 1) (-4) := by
  rcases h with ⟨a, b⟩ | ⟨h, _⟩
  · exact Or.inl ⟨rfl, fun m hm => by by_cases e : m = k; (rw [e]; exact hp); exact b m (by omega)⟩
  · omega
/-- the pairs before (i, k) are tried -/
def tradeJ (v : SV) (i k fd : Int) : Prop := (fd = -4 ∧ (passI v = 1 ∨ (passI v = 0 ∧ ∀ a b : Int, 0 ≤ a → a < b → b < qn v → befP a b i k → passI (exchV v a b) = 0))) ∨ ((0 ≤ fd ∧ fd ≤ 77) ∧ tradeP v fd)
theorem tradeJ_0 (v : SV) : tradeJ v 0 0 (-4) := by
  rcases passI_01 v with h | h
  · exact Or.inl ⟨rfl, Or.inr ⟨h, fun a b h0 h1 h2 h3 => by unfold befP at h3; omega⟩⟩
  · exact Or.inl ⟨rfl, Or.inl h⟩
theorem tradeJ_mv {v : SV} {i k fd : Int} (h : tradeJ v i k fd) {i2 k2 : Int} (he : ∀ a b : Int, a < b → b < qn v → befP a b i2 k2 → befP a b i k) : tradeJ v i2 k2 fd := by
  rcases h with ⟨a, b⟩ | h
  · rcases b with b | ⟨b, d⟩
    · exact Or.inl ⟨a, Or.inl b⟩
    · exact Or.inl ⟨a, Or.inr ⟨b, fun x y h0 h1 h2 h3 => d x y h0 h1 h2 (he x y h1 h2 h3)⟩⟩
  · exact Or.inr h
theorem tradeJ_in {v : SV} {i fd : Int} (h : tradeJ v i i fd) : tradeJ v i (i + 1) fd := tradeJ_mv h (fun a b h1 _ h2 => by unfold befP at h2 ⊢; omega)
theorem tradeJ_out {v : SV} {i k fd : Int} (h : tradeJ v i k fd) (hk : qn v ≤ k) : tradeJ v (i + 1) (i + 1) fd := tradeJ_mv h (fun a b h1 h3 h2 => by unfold befP at h2 ⊢; omega)
theorem tradeJ_e {v : SV} {i k fd : Int} (h : tradeJ v i k fd) (hi : qn v ≤ i) : tradeP v fd := by
  rcases h with ⟨a, b⟩ | ⟨_, h⟩
  · rcases b with b | ⟨b, d⟩
    · exact Or.inl ⟨b, a⟩
    · exact Or.inr ⟨b, Or.inr ⟨fun x y h0 h1 h2 => d x y h0 h1 h2 (Or.inl (by omega)), a⟩⟩
  · exact h
theorem tradeJ_s {v : SV} {i k fd : Int} (h : tradeJ v i k fd) (hf : fd ≠ -4) : tradeJ v i (k + 1) fd := by
  rcases h with ⟨a, _⟩ | h
  · exact absurd a hf
  · exact Or.inr h
theorem tradeJ_p {v : SV} {i k : Int} (hp : passI v = 1) : tradeJ v i k (-4) := Or.inl ⟨rfl, Or.inl hp⟩
theorem tradeJ_n {v : SV} {i k : Int} (h : tradeJ v i k (-4)) (hp : passI v = 0) (hx : passI (exchV v i k) = 0) : tradeJ v i (k + 1) (-4) := by
  rcases h with ⟨a, b⟩ | ⟨h, _⟩
  · rcases b with b | ⟨b, d⟩
    · omega
    · refine Or.inl ⟨a, Or.inr ⟨b, fun x y h0 h1 h2 h3 => ?_⟩⟩
      by_cases e : x = i ∧ y = k
      · rw [e.1, e.2]; exact hx
      · exact d x y h0 h1 h2 (by unfold befP at h3 ⊢; omega)
  · omega
theorem tradeJ_y {v : SV} {i k : Int} (h : tradeJ v i k (-4)) (hp : passI v = 0) (hx : passI (exchV v i k) = 1) (hi : 0 ≤ i ∧ i < k ∧ k < qn v) (h7 : qn v ≤ 7) : tradeJ v i (k + 1) (10 * i + k) := by
  rcases h with ⟨a, b⟩ | ⟨h, _⟩
  · rcases b with b | ⟨b, d⟩
    · omega
    · exact Or.inr ⟨by omega, Or.inr ⟨b, Or.inl ⟨i, k, hi, hx, d, rfl⟩⟩⟩
  · omega
theorem tradeJ_b {v : SV} {i k fd : Int} (h : tradeJ v i k fd) : -4 ≤ fd ∧ fd ≤ 77 := by rcases h with ⟨a, _⟩ | ⟨h, _⟩ <;> omega
theorem decN_st (L : Nat → Int) (n i k : Nat) {x : Int} (h : (x = decN L n i k + facN (popN k) * facN (n - 1 - popN k) ∧ bitI k i = 0 ∧ L k = 0 ∧ L (k ||| 2 ^ i) = 1) ∨ (x = decN L n i k ∧ ¬ (bitI k i = 0 ∧ L k = 0 ∧ L (k ||| 2 ^ i) = 1))) : x = decN L n i (k + 1) := by
  unfold decN
  rcases h with ⟨a, b⟩ | ⟨a, b⟩
  · rw [if_pos b]; exact a
  · rw [if_neg b]; exact a
theorem likN_st (L : Nat → Int) (x : Int) (n k : Nat) {y : Int} (h : (y = likN L x n k + casN x k n ∧ L k = 1) ∨ (y = likN L x n k ∧ L k ≠ 1)) : y = likN L x n (k + 1) := by
  unfold likN
  rcases h with ⟨a, b⟩ | ⟨a, b⟩
  · rw [if_pos b]; exact a
  · rw [if_neg b]; exact a
theorem bit_shrI {s : Nat} {i : Int} (hs : s < 128) (h0 : 0 ≤ i) (h1 : i < 7) : iI (s : Int) >>> (iI i &&& 31) = iI ((s >>> i.toNat : Nat) : Int) := by
  obtain ⟨n, rfl⟩ := Int.eq_ofNat_of_zero_le h0
  exact bit_shr hs (by omega)
theorem bit_shlI {i : Int} (h0 : 0 ≤ i) (h1 : i < 7) : iI 1 <<< (iI i &&& 31) = iI ((2 ^ i.toNat : Nat) : Int) := by
  obtain ⟨n, rfl⟩ := Int.eq_ofNat_of_zero_le h0
  exact bit_shl (by omega)
theorem bit_ltI {s i n : Nat} (hs : s < 2 ^ n) (hi : i < n) (hn : n ≤ 7) : s ||| 2 ^ i < 128 := by
  have h1 : s ||| 2 ^ i < 2 ^ n := Nat.or_lt_two_pow hs (Nat.pow_lt_pow_right (by decide) hi)
  have := (pow_b n (by omega)).2
  omega
/-- what the reference's count answers -/
def cntR (v : SV) (nd kn kp ty w : Int) : Int := if w = 0 then qn v else if w = 1 then qam v else if w = 2 then qhe v else if w = 3 then qsa v else if w = 4 then qro v else if w = 5 then sumI (qhu v) (qn v).toNat else if w = 6 then sumI (qea v) (qn v).toNat else if w = 7 then nd else if w = 8 then kn else if w = 9 then kp else if w = 10 then ty else -1
/-- the notes are such as seen puts there -/
def okNs (ns : Int → Int) (nd n : Int) : Prop := (0 ≤ nd ∧ nd ≤ 6) ∧ ∀ k : Int, 0 ≤ k → k < nd → 0 ≤ ns k ∧ ns k < 20 * n
def whR (ns : Int → Int) : Int → Int := fun k => ns k / 20
def muR (ns : Int → Int) : Int → Int := fun k => ns k % 20
theorem soN_st (v w : SV) (wh mu : Int → Int) (k : Nat) {x : Int} (h : (x = 1 ∧ soN v w wh mu k = 1 ∧ qea w (wh (k : Int)) - qea v (wh (k : Int)) = mu (k : Int)) ∨ (x = 0 ∧ ¬ (soN v w wh mu k = 1 ∧ qea w (wh (k : Int)) - qea v (wh (k : Int)) = mu (k : Int)))) : x = soN v w wh mu (k + 1) := by
  unfold soN
  rcases h with ⟨a, b⟩ | ⟨a, b⟩
  · rw [if_pos b]; exact a
  · rw [if_neg b]; exact a
theorem mayN_st (v : SV) (wh mu : Int → Int) (my : Nat) (what : Int) (k : Nat) {x : Nat} (h : (x = mayN v wh mu my what k ||| 2 ^ k ∧ soN v (roundV (mayV v what (k : Int))).1 wh mu my = 1) ∨ (x = mayN v wh mu my what k ∧ soN v (roundV (mayV v what (k : Int))).1 wh mu my ≠ 1)) : x = mayN v wh mu my what (k + 1) := by
  unfold mayN
  rcases h with ⟨a, b⟩ | ⟨a, b⟩
  · rw [if_pos b]; exact a
  · rw [if_neg b]; exact a
theorem mR_may {td ss : Int → Int} {v : SV} (h : mR td ss v) (h7 : qn v ≤ 7) {w : Int} (x : Int) : (w = 0 → mR td (uI ss 30 x) (mayV v w x)) ∧ (w ≠ 0 → mR td (uI ss 29 x) (mayV v w x)) := by
  unfold mayV
  refine ⟨fun e => ?_, fun e => ?_⟩
  · rw [if_pos e]; exact mR_sa (v := v) (x := qsa v) h h7 x
  · rw [if_neg e]; exact mR_he (v := v) (x := qhe v) h h7 x
theorem mR_tsalt {td ss : Int → Int} {v : SV} (h : mR td ss v) (h7 : qn v ≤ 7) {x : Int} (hx : (x = ss 30 + 1 ∧ qsa v < 9) ∨ (x = ss 30 + 0 ∧ ¬ qsa v < 9 ∧ qsa v ≤ 9)) : mR td (uI ss 30 x) (saltV v) := by
  have e : x = min (qsa v + 1) 9 := by have := h.2.2.2.1; omega
  rw [e]
  exact mR_sa (v := v) (x := qsa v) h h7 _
theorem mR_tid {td ss : Int → Int} {v : SV} (h : mR td ss v) (h7 : qn v ≤ 7) {x : Int} (hx : x = ss 30 + 0) : mR td (uI ss 30 x) v := by
  have e : x = qsa v := by have := h.2.2.2.1; omega
  rw [e]
  exact mR_sa (v := v) (x := qsa v) h h7 _
