/-- member i in the set s -/
def bitI (s i : Nat) : Nat := s >>> i % 2
def popN (s : Nat) : Nat := bitI s 0 + bitI s 1 + bitI s 2 + bitI s 3 + bitI s 4 + bitI s 5 + bitI s 6
theorem bitI_01 (s i : Nat) : bitI s i = 0 ∨ bitI s i = 1 := by unfold bitI; omega
theorem popN_b (s : Nat) : popN s ≤ 7 := by
  have := bitI_01 s 0; have := bitI_01 s 1; have := bitI_01 s 2; have := bitI_01 s 3; have := bitI_01 s 4; have := bitI_01 s 5; have := bitI_01 s 6
  unfold popN
  omega
theorem bit_d1 : ∀ s, s < 128 → ∀ i, i < 7 → nI s >>> (nI i &&& 31) = nI (s >>> i) := by decide +kernel
theorem bit_d2 : ∀ s, s < 128 → nI s &&& 1 = nI (s % 2) := by decide +kernel
theorem bit_d3 : ∀ i, i < 8 → (1 : Int32) <<< (nI i &&& 31) = nI (2 ^ i) := by decide +kernel
theorem bit_d4 : ∀ s, s < 128 → ∀ i, i < 7 → nI s ||| nI (2 ^ i) = nI (s ||| 2 ^ i) := by decide +kernel
theorem bit_d5 : ∀ s, s < 128 → ∀ i, i < 7 → s ||| 2 ^ i < 128 := by decide +kernel
theorem bit_d6 : ∀ s, s < 128 → ∀ i, i < 7 → s >>> i < 128 := by decide +kernel
theorem iI_n (n : Nat) : iI (n : Int) = nI n := (iI_nat n).symm
theorem bit_shr {s i : Nat} (hs : s < 128) (hi : i < 7) : iI (s : Int) >>> (iI (i : Int) &&& 31) = iI ((s >>> i : Nat) : Int) := by
  rw [iI_n, iI_n, iI_n]; exact bit_d1 s hs i hi
theorem bit_and1 {s : Nat} (hs : s < 128) : iI (s : Int) &&& iI 1 = iI ((s % 2 : Nat) : Int) := by
  rw [iI_n, iI_n]; exact bit_d2 s hs
theorem bit_shl {i : Nat} (hi : i < 8) : iI 1 <<< (iI (i : Int) &&& 31) = iI ((2 ^ i : Nat) : Int) := by
  rw [iI_n, iI_n]; exact bit_d3 i hi
theorem bit_or {s i : Nat} (hs : s < 128) (hi : i < 7) : iI (s : Int) ||| iI ((2 ^ i : Nat) : Int) = iI ((s ||| 2 ^ i : Nat) : Int) := by
  rw [iI_n, iI_n, iI_n]; exact bit_d4 s hs i hi
theorem pow_b : ∀ i, i < 8 → 1 ≤ 2 ^ i ∧ 2 ^ i ≤ 128 := by decide
def popE (x : Int32) : Int32 :=
  let a := x - ((x.toUInt32 >>> ((1 : Int32).toUInt32 &&& Int32.toUInt32 31)).toInt32 &&& 1431655765)
  let b := (a &&& 858993459) + ((a.toUInt32 >>> ((2 : Int32).toUInt32 &&& Int32.toUInt32 31)).toInt32 &&& 858993459)
  let d := (b + (b.toUInt32 >>> ((4 : Int32).toUInt32 &&& Int32.toUInt32 31)).toInt32) &&& 252645135
  let e := d + (d.toUInt32 >>> ((8 : Int32).toUInt32 &&& Int32.toUInt32 31)).toInt32
  let g := e + (e.toUInt32 >>> ((16 : Int32).toUInt32 &&& Int32.toUInt32 31)).toInt32
  g &&& 63
theorem popE_d : ∀ s, s < 128 → popE (nI s) = nI (popN s) := by decide +kernel
theorem popE_ok {s : Nat} (hs : s < 128) : popE (iI (s : Int)) = iI ((popN s : Nat) : Int) := by rw [iI_n, iI_n]; exact popE_d s hs
/-- the sum of g over the members below k of the set s -/
def setSum (g : Int → Int) (s : Nat) : Nat → Int
  | 0 => 0
  | k + 1 => if bitI s k = 1 then setSum g s k + g (k : Int) else setSum g s k
def letsI (g : Int → Int) (n : Nat) (a : Int) (s : Nat) : Int := if a ≤ setSum g s n then 1 else 0
theorem letsI_01 (g : Int → Int) (n : Nat) (a : Int) (s : Nat) : letsI g n a s = 0 ∨ letsI g n a s = 1 := by unfold letsI; split <;> simp
theorem setSum_b {g : Int → Int} {n : Nat} (h : ∀ i : Nat, i < n → 0 ≤ g (i : Int) ∧ g (i : Int) ≤ 60) (s : Nat) : ∀ k, k ≤ n → 0 ≤ setSum g s k ∧ setSum g s k ≤ 60 * k := by
  intro k
  induction k with
  | zero => intro _; exact ⟨Int.le_refl _, by unfold setSum; omega⟩
  | succ k ih =>
    intro hk
    have h1 := ih (by omega)
    have h2 := h k (by omega)
    unfold setSum
    split <;> omega
/-- of the sets below k the first of fewest that L lets pass, or -4 -/
def fewN (L : Nat → Int) : Nat → Int
  | 0 => -4
  | k + 1 => if L k = 1 ∧ (fewN L k = -4 ∨ popN k < popN (fewN L k).toNat) then (k : Int) else fewN L k
theorem fewN_b (L : Nat → Int) (k : Nat) : fewN L k = -4 ∨ (0 ≤ fewN L k ∧ fewN L k < (k : Int)) := by
  induction k with
  | zero => exact Or.inl rfl
  | succ k ih => unfold fewN; split <;> omega
def facN : Nat → Int
  | 0 => 1
  | k + 1 => facN k * ((k : Int) + 1)
theorem facN_b : ∀ a, a < 8 → ∀ b, b < 8 → a + b < 7 → 1 ≤ facN a * facN b ∧ facN a * facN b ≤ 720 := by decide +kernel
theorem facN_c : ∀ a, a < 8 → 1 ≤ facN a ∧ facN a ≤ 5040 := by decide +kernel
/-- in how many orders i is the one by whose joining it is passed, over the sets below k -/
def decN (L : Nat → Int) (n i : Nat) : Nat → Int
  | 0 => 0
  | k + 1 => if bitI k i = 0 ∧ L k = 0 ∧ L (k ||| 2 ^ i) = 1 then decN L n i k + facN (popN k) * facN (n - 1 - popN k) else decN L n i k
/-- x of ten for each who is in the set, ten less x for each who is not -/
def casN (x : Int) (s : Nat) : Nat → Int
  | 0 => 1
  | k + 1 => casN x s k * (if bitI s k = 1 then x else 10 - x)
def likN (L : Nat → Int) (x : Int) (n : Nat) : Nat → Int
  | 0 => 0
  | k + 1 => if L k = 1 then likN L x n k + casN x k n else likN L x n k
def tenN : Nat → Int
  | 0 => 1
  | k + 1 => tenN k * 10
/-- a set below 2 to the n, with i not in it: fewer than n members -/
theorem pop_lt : ∀ n, n < 8 → ∀ s, s < 2 ^ n → popN s ≤ n ∧ ∀ i, i < n → bitI s i = 0 → popN s ≤ n - 1 := by decide +kernel
theorem facN_e {m q : Nat} (h1 : 1 ≤ q) (h : q ≤ m ∨ q = 1) (hc : (m : Int) < (q : Int) + 1) : facN m = facN q := by
  rcases h with h | h
  · have e2 : q = m := by omega
    rw [e2]
  · have e3 : m = 0 ∨ m = 1 := by omega
    rcases e3 with e3 | e3 <;> subst e3 <;> subst h <;> rfl
