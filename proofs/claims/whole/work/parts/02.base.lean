/-! THE LAYER OF WHOLE WORLDS. K: launch, world constants, addresses' kind, address map, number of cells, array classes; X: the machine's place -/
def iI (z : Int) : Int32 := Int32.ofInt z
def zB (z : Int) : Prop := -2147483648 ≤ z ∧ z < 2147483648
theorem iI_toInt {z : Int} (h : zB z) : (iI z).toInt = z := by
  unfold iI
  exact Int32.toInt_ofInt_of_le (by have := h.1; omega) (by have := h.2; omega)
theorem iI_add (a b : Int) : iI a + iI b = iI (a + b) := by unfold iI; exact (Int32.ofInt_add a b).symm
theorem iI_sub (a b : Int) : iI a - iI b = iI (a - b) := by unfold iI; exact (Int32.ofInt_sub a b).symm
theorem iI_mul (a b : Int) : iI a * iI b = iI (a * b) := by unfold iI; exact (Int32.ofInt_mul a b).symm
theorem iI_inj {a b : Int} (ha : zB a) (hb : zB b) : iI a = iI b ↔ a = b := by
  constructor
  · intro h
    have h2 := congrArg Int32.toInt h
    rwa [iI_toInt ha, iI_toInt hb] at h2
  · intro h; rw [h]
theorem iI_lt {a b : Int} (ha : zB a) (hb : zB b) : iI a < iI b ↔ a < b := by
  rw [Int32.lt_iff_toInt_lt, iI_toInt ha, iI_toInt hb]
theorem iI_le {a b : Int} (ha : zB a) (hb : zB b) : iI a ≤ iI b ↔ a ≤ b := by
  rw [Int32.le_iff_toInt_le, iI_toInt ha, iI_toInt hb]
theorem iI_of (x : Int32) : x = iI x.toInt := by
  unfold iI
  exact (Int32.ofInt_toInt x).symm
theorem zB_toInt (x : Int32) : zB x.toInt := ⟨by have := x.le_toInt; omega, by have := x.toInt_lt; omega⟩
theorem iI_cl {z : Int} (h0 : 0 ≤ z) (h : z < 2147483648) : (iI z).toNatClampNeg = z.toNat := by
  show (iI z).toInt.toNat = _
  rw [iI_toInt ⟨by omega, h⟩]
theorem iI_in {z : Int} {n : Nat} (h0 : 0 ≤ z) (h : z < n) (hn : n < 2147483648) : vp_in (iI z) n := by
  have hb : zB z := ⟨by omega, by omega⟩
  rw [vp_in_iff, iI_toInt hb]
  exact ⟨h0, h⟩
theorem iI_nat (n : Nat) : Int32.ofNat n = iI (n : Int) := by
  unfold iI
  rfl
def uI (g : Int → Int) (k v : Int) : Int → Int := fun y => if y = k then v else g y
theorem uI_s (g : Int → Int) (k v : Int) : uI g k v k = v := by simp [uI]
theorem uI_n (g : Int → Int) {k y : Int} (v : Int) (h : y ≠ k) : uI g k v y = g y := by simp [uI, h]
def aI (g : Int → Int) : Nat → Int32 := fun q => iI (g (q : Int))
theorem aI_rd (g : Int → Int) {z : Int} (h0 : 0 ≤ z) (h : z < 2147483648) : aI g (iI z).toNatClampNeg = iI (g z) := by
  unfold aI
  rw [iI_cl h0 h, Int.toNat_of_nonneg h0]
theorem aI_up (g : Int → Int) {z : Int} (v : Int) (h0 : 0 ≤ z) (h : z < 2147483648) : upd (aI g) (iI z).toNatClampNeg (iI v) = aI (uI g z v) := by
  funext q
  unfold upd aI uI
  rw [iI_cl h0 h]
  by_cases hq : q = z.toNat
  · have h2 : (q : Int) = z := by omega
    rw [if_pos hq, if_pos h2]
  · have h2 : ¬ (q : Int) = z := by omega
    rw [if_neg hq, if_neg h2]
abbrev zK : Type := Launch × va_G × (Nat → Prop) × (Nat → Nat) × Nat × ClassId × ClassId × ClassId
abbrev zX : Type := Program × Env × Room × State × MethodId × Array Value × List Frame × Method × Code × (State → Prop) × Nat × Nat
abbrev zE : Type := Nat → va_E
def kl (K : zK) : Launch := K.1
def kD (K : zK) : va_G := K.2.1
def kA (K : zK) : Nat → Prop := K.2.2.1
def kad (K : zK) : Nat → Nat := K.2.2.2.1
def kN (K : zK) : Nat := K.2.2.2.2.1
def kI (K : zK) : ClassId := K.2.2.2.2.2.1
def kC (K : zK) : ClassId := K.2.2.2.2.2.2.1
def kS (K : zK) : ClassId := K.2.2.2.2.2.2.2
def zty (K : zK) : List (ClassId × FieldType) := [(kI K, .int), (kC K, .char), (kS K, .object RX3)]
def zwl (K : zK) (ct : zE) : va_W := (List.range (kN K)).map (fun k => (kad K k, ct k))
def zup (ct : zE) (k : Nat) (e : va_E) : zE := fun j => if j = k then e else ct j
def zInj (K : zK) : Prop := (∀ i j : Nat, i < kN K → j < kN K → kad K i = kad K j → i = j) ∧ ∀ i : Nat, i < kN K → kA K (kad K i)
/-- the links among nest mates, which no list of words keeps -/
def zNest (U : State) : Prop := va_Nw (.methodLinkNest RX3 46 yX5_isOutside RX5) U ∧ va_Nw (.methodLinkNest RX0 33 yX5_isOutside RX5) U ∧ va_Nw (.methodLinkNest RX2 22 yX5_isOutside RX5) U
theorem zNest_warm {s U : State} (hW : s.WarmedH U.vm) (h : zNest s) : zNest U := ⟨va_Nw.warmM hW h.1, va_Nw.warmM hW h.2.1, va_Nw.warmM hW h.2.2⟩
theorem zNest_same {u U : State} (hv : u.vm = U.vm) (h : zNest u) : zNest U := ⟨va_Nw.same rfl hv h.1, va_Nw.same rfl hv h.2.1, va_Nw.same rfl hv h.2.2⟩
theorem zwl_at {K : zK} {ct : zE} {k : Nat} (h : k < kN K) : (zwl K ct)[k]? = some (kad K k, ct k) := by
  unfold zwl
  rw [List.getElem?_map, List.getElem?_range h]
  rfl
theorem zwl_set {K : zK} {ct : zE} {k : Nat} (e : va_E) : (zwl K ct).set k (kad K k, e) = zwl K (zup ct k e) := by
  apply List.ext_getElem?
  intro i
  rw [List.getElem?_set]
  unfold zwl zup
  simp only [List.getElem?_map, List.length_map, List.length_range]
  by_cases hi : k = i
  · subst hi
    by_cases hk : k < kN K
    · simp [hk, List.getElem?_range hk]
    · simp [hk]
  · rw [if_neg hi]
    by_cases hk : i < kN K
    · rw [List.getElem?_range hk]
      simp [Ne.symm hi]
    · rw [List.getElem?_eq_none (by simpa using Nat.le_of_not_lt hk)]
      rfl
theorem zwl_D {K : zK} (hI : zInj K) (ct : zE) : va_D (kA K) (zwl K ct) := by
  have key : ∀ (k : Nat) (q : Nat × va_E), (zwl K ct)[k]? = some q → k < kN K ∧ q.1 = kad K k := by
    intro k q h
    have hl : k < kN K := by
      have := (List.getElem?_eq_some_iff.mp h).1
      simpa [zwl] using this
    rw [zwl_at hl] at h
    exact ⟨hl, by rw [← Option.some.inj h]⟩
  refine ⟨fun i j x y hi hj hxy => ?_, fun k q hk => ?_⟩
  · obtain ⟨h1, h2⟩ := key i x hi
    obtain ⟨h3, h4⟩ := key j y hj
    exact hI.1 i j h1 h3 (by rw [← h2, ← h4]; exact hxy)
  · obtain ⟨h1, h2⟩ := key k q hk
    rw [h2]
    exact hI.2 k h1
/-- a world of K -/
def zW (K : zK) (ct : zE) (U : State) : Prop := va_P (kD K) vwCl (zwl K ct) U.heap ∧ va_K (kD K) vwCl (zty K) U ∧ zNest U
theorem zgood {ws : List Cond} (h : ∀ w ∈ ws, w ∈ zTB) : GoodIn zTB ws := fun w hw => ⟨h w hw, good_of_word (zTB_good w (h w hw))⟩
/-- where the machine stands, with all that a row asks of it -/
def zO (K : zK) (X : zX) (cc : ByteArray) (own : String) (ret : Option FieldType) (nL f : Nat) : Prop :=
  X.1.tables.exec = Jvm.exec ∧ X.2.2.2.2.2.2.2.2.1.code = cc ∧ X.2.2.2.2.2.2.2.1.sig.returnType = ret ∧ X.2.2.2.2.2.2.2.2.1.maxLocals = nL ∧ X.2.2.2.1.vm.findClass own = some X.2.2.2.2.1.cls ∧
  (∀ w ∈ zTB, w.before X.2.2.2.2.2.1 X.2.2.2.1 = true) ∧ X.2.2.2.2.2.2.2.1.locks = false ∧ va_K (kD K) vwCl (zty K) X.2.2.2.1 ∧ zNest X.2.2.2.1 ∧ zInj K ∧ f ≤ X.2.2.1.frames ∧ 32 * f ≤ X.2.2.1.locals ∧
  X.2.2.2.2.2.2.2.2.2.2.1 ≤ X.2.2.1.cells ∧ X.2.2.2.2.2.2.2.2.2.2.2 ≤ X.2.2.1.slots
/-- the judgement: from this place, with these locals, this stack and this world, the machine comes to its end -/
def G (K : zK) (X : zX) (nL pc : Nat) (lo : List (Nat × Value)) (st : List Value) (ct : zE) : Prop :=
  ∀ (H : Heap) (locs : List Loc) (ls : Array Slot), va_P (kD K) vwCl (zwl K ct) H → va_S (kA K) X.2.2.2.1.heap H locs → lv_has ls nL lo →
    W X.1 (kl K) X.2.1 X.2.2.1 X.2.2.2.1 X.2.2.2.2.1 X.2.2.2.2.2.1 X.2.2.2.2.2.2.1 X.2.2.2.2.2.2.2.1 X.2.2.2.2.2.2.2.2.1 H locs X.2.2.2.2.2.2.2.2.2.2.1 X.2.2.2.2.2.2.2.2.2.2.2 X.2.2.2.2.2.2.2.2.2.1 (F0 X.2.2.2.2.1 pc ls st)
/-- the locals, one stored: those that it hides go -/
def zst (i : Nat) (v : Value) (lo : List (Nat × Value)) : List (Nat × Value) := (i, v) :: lo.filter (fun q => !(q.1 == i) && !(q.1 + 1 == i && q.2.category == 2))
def zst2 (i : Nat) (v : Value) (lo : List (Nat × Value)) : List (Nat × Value) := (i, v) :: lo.filter (fun q => !(q.1 == i) && (!(q.1 == i + 1) && !(q.1 + 1 == i && q.2.category == 2)))
def zLo (lo : List (Nat × Value)) (i : Nat) (v : Value) : Prop := (i, v) ∈ lo
theorem zLo_get {lo : List (Nat × Value)} {i : Nat} {v : Value} (h : zLo lo i v) {ls : Array Slot} {nL : Nat} (hl : lv_has ls nL lo) : ls[i]? = some (.val v) := hl.2.2 (i, v) h
theorem zLo_0 {i : Nat} {v : Value} {l : List (Nat × Value)} : zLo ((i, v) :: l) i v := List.mem_cons_self
theorem zLo_s {i : Nat} {v : Value} {q : Nat × Value} {l : List (Nat × Value)} (h : zLo l i v) : zLo (q :: l) i v := List.mem_cons_of_mem _ h
theorem G_sub {K : zK} {X : zX} {nL pc : Nat} {lo lo' : List (Nat × Value)} {st : List Value} {ct : zE} (h : ∀ q ∈ lo', q ∈ lo) (k : G K X nL pc lo' st ct) : G K X nL pc lo st ct :=
  fun H locs ls hP hS hl => k H locs ls hP hS ⟨hl.1, hl.2.1, fun q hq => hl.2.2 q (h q hq)⟩
theorem G_ct {K : zK} {X : zX} {nL pc : Nat} {lo : List (Nat × Value)} {st : List Value} {ct ct' : zE} (h : ct = ct') (k : G K X nL pc lo st ct') : G K X nL pc lo st ct := h ▸ k
theorem G_st {K : zK} {X : zX} {nL pc : Nat} {lo : List (Nat × Value)} {st st' : List Value} {ct : zE} (h : st = st') (k : G K X nL pc lo st' ct) : G K X nL pc lo st ct := h ▸ k

theorem r_iconst {K : zK} {X : zX} {cc : ByteArray} {own : String} {ret : Option FieldType} {nL f pc : Nat} {lo : List (Nat × Value)} {st : List Value} {ct : zE} {n : Int} (O : zO K X cc own ret nL f) (hd : decode cc pc = .ok (.iconst n, 1)) (k : G K X nL (pc + 1) lo (.int (iI n) :: st) ct) : G K X nL pc lo st ct := by
  obtain ⟨l, D, A, ad, N, cI, cC, cS⟩ := K
  obtain ⟨p, e, R, s, m, args, below, meth, c, Q, cells, slots⟩ := X
  obtain ⟨hx, hb, hr, hml, hown, hts, hlk, hK, hZ, hI, hf1, hf2, hc1, hc2⟩ := O
  intro H locs ls hP hS hl
  exact lv_iconst hx hb hd rfl (k H locs ls hP hS hl)
theorem r_bipush {K : zK} {X : zX} {cc : ByteArray} {own : String} {ret : Option FieldType} {nL f pc : Nat} {lo : List (Nat × Value)} {st : List Value} {ct : zE} {n : Int} (O : zO K X cc own ret nL f) (hv : (Int8.ofInt n).toInt32 = iI n) (hd : decode cc pc = .ok (.bipush n, 2)) (k : G K X nL (pc + 2) lo (.int (iI n) :: st) ct) : G K X nL pc lo st ct := by
  obtain ⟨l, D, A, ad, N, cI, cC, cS⟩ := K
  obtain ⟨p, e, R, s, m, args, below, meth, c, Q, cells, slots⟩ := X
  obtain ⟨hx, hb, hr, hml, hown, hts, hlk, hK, hZ, hI, hf1, hf2, hc1, hc2⟩ := O
  intro H locs ls hP hS hl
  exact lv_bipush hx hb hd hv (k H locs ls hP hS hl)
theorem r_sipush {K : zK} {X : zX} {cc : ByteArray} {own : String} {ret : Option FieldType} {nL f pc : Nat} {lo : List (Nat × Value)} {st : List Value} {ct : zE} {n : Int} (O : zO K X cc own ret nL f) (hv : (Int16.ofInt n).toInt32 = iI n) (hd : decode cc pc = .ok (.sipush n, 3)) (k : G K X nL (pc + 3) lo (.int (iI n) :: st) ct) : G K X nL pc lo st ct := by
  obtain ⟨l, D, A, ad, N, cI, cC, cS⟩ := K
  obtain ⟨p, e, R, s, m, args, below, meth, c, Q, cells, slots⟩ := X
  obtain ⟨hx, hb, hr, hml, hown, hts, hlk, hK, hZ, hI, hf1, hf2, hc1, hc2⟩ := O
  intro H locs ls hP hS hl
  exact lv_sipush hx hb hd hv (k H locs ls hP hS hl)
theorem r_iload_n {K : zK} {X : zX} {cc : ByteArray} {own : String} {ret : Option FieldType} {nL f pc : Nat} {lo : List (Nat × Value)} {st : List Value} {ct : zE} {q : Fin 4} {i : Nat} {x : Int32} (O : zO K X cc own ret nL f) (hd : decode cc pc = .ok (.iload_n q, 1)) (hi : (q : Nat) = i) (hg : zLo lo i (.int x)) (k : G K X nL (pc + 1) lo (.int x :: st) ct) : G K X nL pc lo st ct := by
  obtain ⟨l, D, A, ad, N, cI, cC, cS⟩ := K
  obtain ⟨p, e, R, s, m, args, below, meth, c, Q, cells, slots⟩ := X
  obtain ⟨hx, hb, hr, hml, hown, hts, hlk, hK, hZ, hI, hf1, hf2, hc1, hc2⟩ := O
  intro H locs ls hP hS hl
  exact lv_iload_n hx hb hd hi (zLo_get hg hl) (k H locs ls hP hS hl)
theorem r_iload {K : zK} {X : zX} {cc : ByteArray} {own : String} {ret : Option FieldType} {nL f pc : Nat} {lo : List (Nat × Value)} {st : List Value} {ct : zE} {i : Nat} {x : Int32} (O : zO K X cc own ret nL f) (hd : decode cc pc = .ok (.iload i, 2)) (hg : zLo lo i (.int x)) (k : G K X nL (pc + 2) lo (.int x :: st) ct) : G K X nL pc lo st ct := by
  obtain ⟨l, D, A, ad, N, cI, cC, cS⟩ := K
  obtain ⟨p, e, R, s, m, args, below, meth, c, Q, cells, slots⟩ := X
  obtain ⟨hx, hb, hr, hml, hown, hts, hlk, hK, hZ, hI, hf1, hf2, hc1, hc2⟩ := O
  intro H locs ls hP hS hl
  exact lv_iload hx hb hd (zLo_get hg hl) (k H locs ls hP hS hl)
theorem r_istore_n {K : zK} {X : zX} {cc : ByteArray} {own : String} {ret : Option FieldType} {nL f pc : Nat} {lo : List (Nat × Value)} {st : List Value} {ct : zE} {q : Fin 4} {i : Nat} {x : Int32} {lo2 : List (Nat × Value)} (O : zO K X cc own ret nL f) (hd : decode cc pc = .ok (.istore_n q, 1)) (hi : (q : Nat) = i) (hn : i < nL) (hg : zst i (.int x) lo = lo2) (k : G K X nL (pc + 1) lo2 st ct) : G K X nL pc lo (.int x :: st) ct := by
  obtain ⟨l, D, A, ad, N, cI, cC, cS⟩ := K
  obtain ⟨p, e, R, s, m, args, below, meth, c, Q, cells, slots⟩ := X
  obtain ⟨hx, hb, hr, hml, hown, hts, hlk, hK, hZ, hI, hf1, hf2, hc1, hc2⟩ := O
  intro H locs ls hP hS hl
  exact lv_istore_n hx hb hd hi hl hn hg (fun ls2 hl2 => k H locs ls2 hP hS hl2)
theorem r_istore {K : zK} {X : zX} {cc : ByteArray} {own : String} {ret : Option FieldType} {nL f pc : Nat} {lo : List (Nat × Value)} {st : List Value} {ct : zE} {i : Nat} {x : Int32} {lo2 : List (Nat × Value)} (O : zO K X cc own ret nL f) (hd : decode cc pc = .ok (.istore i, 2)) (hn : i < nL) (hg : zst i (.int x) lo = lo2) (k : G K X nL (pc + 2) lo2 st ct) : G K X nL pc lo (.int x :: st) ct := by
  obtain ⟨l, D, A, ad, N, cI, cC, cS⟩ := K
  obtain ⟨p, e, R, s, m, args, below, meth, c, Q, cells, slots⟩ := X
  obtain ⟨hx, hb, hr, hml, hown, hts, hlk, hK, hZ, hI, hf1, hf2, hc1, hc2⟩ := O
  intro H locs ls hP hS hl
  exact lv_istore hx hb hd hl hn hg (fun ls2 hl2 => k H locs ls2 hP hS hl2)
theorem r_aload_n {K : zK} {X : zX} {cc : ByteArray} {own : String} {ret : Option FieldType} {nL f pc : Nat} {lo : List (Nat × Value)} {st : List Value} {ct : zE} {q : Fin 4} {i : Nat} {x : Nat} (O : zO K X cc own ret nL f) (hd : decode cc pc = .ok (.aload_n q, 1)) (hi : (q : Nat) = i) (hg : zLo lo i (.ref x)) (k : G K X nL (pc + 1) lo (.ref x :: st) ct) : G K X nL pc lo st ct := by
  obtain ⟨l, D, A, ad, N, cI, cC, cS⟩ := K
  obtain ⟨p, e, R, s, m, args, below, meth, c, Q, cells, slots⟩ := X
  obtain ⟨hx, hb, hr, hml, hown, hts, hlk, hK, hZ, hI, hf1, hf2, hc1, hc2⟩ := O
  intro H locs ls hP hS hl
  exact lv_aload_n hx hb hd hi (zLo_get hg hl) (k H locs ls hP hS hl)
theorem r_aload {K : zK} {X : zX} {cc : ByteArray} {own : String} {ret : Option FieldType} {nL f pc : Nat} {lo : List (Nat × Value)} {st : List Value} {ct : zE} {i : Nat} {x : Nat} (O : zO K X cc own ret nL f) (hd : decode cc pc = .ok (.aload i, 2)) (hg : zLo lo i (.ref x)) (k : G K X nL (pc + 2) lo (.ref x :: st) ct) : G K X nL pc lo st ct := by
  obtain ⟨l, D, A, ad, N, cI, cC, cS⟩ := K
  obtain ⟨p, e, R, s, m, args, below, meth, c, Q, cells, slots⟩ := X
  obtain ⟨hx, hb, hr, hml, hown, hts, hlk, hK, hZ, hI, hf1, hf2, hc1, hc2⟩ := O
  intro H locs ls hP hS hl
  exact lv_aload hx hb hd (zLo_get hg hl) (k H locs ls hP hS hl)
theorem r_astore_n {K : zK} {X : zX} {cc : ByteArray} {own : String} {ret : Option FieldType} {nL f pc : Nat} {lo : List (Nat × Value)} {st : List Value} {ct : zE} {q : Fin 4} {i : Nat} {x : Nat} {lo2 : List (Nat × Value)} (O : zO K X cc own ret nL f) (hd : decode cc pc = .ok (.astore_n q, 1)) (hi : (q : Nat) = i) (hn : i < nL) (hg : zst i (.ref x) lo = lo2) (k : G K X nL (pc + 1) lo2 st ct) : G K X nL pc lo (.ref x :: st) ct := by
  obtain ⟨l, D, A, ad, N, cI, cC, cS⟩ := K
  obtain ⟨p, e, R, s, m, args, below, meth, c, Q, cells, slots⟩ := X
  obtain ⟨hx, hb, hr, hml, hown, hts, hlk, hK, hZ, hI, hf1, hf2, hc1, hc2⟩ := O
  intro H locs ls hP hS hl
  exact lv_astore_n hx hb hd hi hl hn hg (fun ls2 hl2 => k H locs ls2 hP hS hl2)
theorem r_astore {K : zK} {X : zX} {cc : ByteArray} {own : String} {ret : Option FieldType} {nL f pc : Nat} {lo : List (Nat × Value)} {st : List Value} {ct : zE} {i : Nat} {x : Nat} {lo2 : List (Nat × Value)} (O : zO K X cc own ret nL f) (hd : decode cc pc = .ok (.astore i, 2)) (hn : i < nL) (hg : zst i (.ref x) lo = lo2) (k : G K X nL (pc + 2) lo2 st ct) : G K X nL pc lo (.ref x :: st) ct := by
  obtain ⟨l, D, A, ad, N, cI, cC, cS⟩ := K
  obtain ⟨p, e, R, s, m, args, below, meth, c, Q, cells, slots⟩ := X
  obtain ⟨hx, hb, hr, hml, hown, hts, hlk, hK, hZ, hI, hf1, hf2, hc1, hc2⟩ := O
  intro H locs ls hP hS hl
  exact lv_astore hx hb hd hl hn hg (fun ls2 hl2 => k H locs ls2 hP hS hl2)
theorem r_lload_n {K : zK} {X : zX} {cc : ByteArray} {own : String} {ret : Option FieldType} {nL f pc : Nat} {lo : List (Nat × Value)} {st : List Value} {ct : zE} {q : Fin 4} {i : Nat} {x : Int64} (O : zO K X cc own ret nL f) (hd : decode cc pc = .ok (.lload_n q, 1)) (hi : (q : Nat) = i) (hg : zLo lo i (.long x)) (k : G K X nL (pc + 1) lo (.long x :: st) ct) : G K X nL pc lo st ct := by
  obtain ⟨l, D, A, ad, N, cI, cC, cS⟩ := K
  obtain ⟨p, e, R, s, m, args, below, meth, c, Q, cells, slots⟩ := X
  obtain ⟨hx, hb, hr, hml, hown, hts, hlk, hK, hZ, hI, hf1, hf2, hc1, hc2⟩ := O
  intro H locs ls hP hS hl
  exact lv_lload_n hx hb hd hi (zLo_get hg hl) (k H locs ls hP hS hl)
theorem r_lload {K : zK} {X : zX} {cc : ByteArray} {own : String} {ret : Option FieldType} {nL f pc : Nat} {lo : List (Nat × Value)} {st : List Value} {ct : zE} {i : Nat} {x : Int64} (O : zO K X cc own ret nL f) (hd : decode cc pc = .ok (.lload i, 2)) (hg : zLo lo i (.long x)) (k : G K X nL (pc + 2) lo (.long x :: st) ct) : G K X nL pc lo st ct := by
  obtain ⟨l, D, A, ad, N, cI, cC, cS⟩ := K
  obtain ⟨p, e, R, s, m, args, below, meth, c, Q, cells, slots⟩ := X
  obtain ⟨hx, hb, hr, hml, hown, hts, hlk, hK, hZ, hI, hf1, hf2, hc1, hc2⟩ := O
  intro H locs ls hP hS hl
  exact lv_lload hx hb hd (zLo_get hg hl) (k H locs ls hP hS hl)
theorem r_lstore_n {K : zK} {X : zX} {cc : ByteArray} {own : String} {ret : Option FieldType} {nL f pc : Nat} {lo : List (Nat × Value)} {st : List Value} {ct : zE} {q : Fin 4} {i : Nat} {x : Int64} {lo2 : List (Nat × Value)} (O : zO K X cc own ret nL f) (hd : decode cc pc = .ok (.lstore_n q, 1)) (hi : (q : Nat) = i) (hn : i + 1 < nL) (hg : zst2 i (.long x) lo = lo2) (k : G K X nL (pc + 1) lo2 st ct) : G K X nL pc lo (.long x :: st) ct := by
  obtain ⟨l, D, A, ad, N, cI, cC, cS⟩ := K
  obtain ⟨p, e, R, s, m, args, below, meth, c, Q, cells, slots⟩ := X
  obtain ⟨hx, hb, hr, hml, hown, hts, hlk, hK, hZ, hI, hf1, hf2, hc1, hc2⟩ := O
  intro H locs ls hP hS hl
  exact lv_lstore_n hx hb hd hi hl hn hg (fun ls2 hl2 => k H locs ls2 hP hS hl2)
theorem r_lstore {K : zK} {X : zX} {cc : ByteArray} {own : String} {ret : Option FieldType} {nL f pc : Nat} {lo : List (Nat × Value)} {st : List Value} {ct : zE} {i : Nat} {x : Int64} {lo2 : List (Nat × Value)} (O : zO K X cc own ret nL f) (hd : decode cc pc = .ok (.lstore i, 2)) (hn : i + 1 < nL) (hg : zst2 i (.long x) lo = lo2) (k : G K X nL (pc + 2) lo2 st ct) : G K X nL pc lo (.long x :: st) ct := by
  obtain ⟨l, D, A, ad, N, cI, cC, cS⟩ := K
  obtain ⟨p, e, R, s, m, args, below, meth, c, Q, cells, slots⟩ := X
  obtain ⟨hx, hb, hr, hml, hown, hts, hlk, hK, hZ, hI, hf1, hf2, hc1, hc2⟩ := O
  intro H locs ls hP hS hl
  exact lv_lstore hx hb hd hl hn hg (fun ls2 hl2 => k H locs ls2 hP hS hl2)
theorem r_iinc {K : zK} {X : zX} {cc : ByteArray} {own : String} {ret : Option FieldType} {nL f pc : Nat} {lo : List (Nat × Value)} {st : List Value} {ct : zE} {i : Nat} {n x : Int} {lo2 : List (Nat × Value)} (O : zO K X cc own ret nL f) (hd : decode cc pc = .ok (.iinc i n, 3)) (hn : i < nL) (hg : zLo lo i (.int (iI x))) (hh : zst i (.int (iI (x + n))) lo = lo2) (k : G K X nL (pc + 3) lo2 st ct) : G K X nL pc lo st ct := by
  obtain ⟨l, D, A, ad, N, cI, cC, cS⟩ := K
  obtain ⟨p, e, R, s, m, args, below, meth, c, Q, cells, slots⟩ := X
  obtain ⟨hx, hb, hr, hml, hown, hts, hlk, hK, hZ, hI, hf1, hf2, hc1, hc2⟩ := O
  intro H locs ls hP hS hl
  obtain ⟨k2, h2⟩ := List.getElem?_of_mem hg
  exact lv_iinc hx hb hd hl h2 (show iI x + iI n = iI (x + n) from iI_add x n) hn hh (fun ls2 hl2 => k H locs ls2 hP hS hl2)
theorem r_iadd {K : zK} {X : zX} {cc : ByteArray} {own : String} {ret : Option FieldType} {nL f pc : Nat} {lo : List (Nat × Value)} {st : List Value} {ct : zE} {x y : Int} (O : zO K X cc own ret nL f) (hd : decode cc pc = .ok (.iadd, 1)) (k : G K X nL (pc + 1) lo (.int (iI (x + y)) :: st) ct) : G K X nL pc lo (.int (iI y) :: .int (iI x) :: st) ct := by
  obtain ⟨l, D, A, ad, N, cI, cC, cS⟩ := K
  obtain ⟨p, e, R, s, m, args, below, meth, c, Q, cells, slots⟩ := X
  obtain ⟨hx, hb, hr, hml, hown, hts, hlk, hK, hZ, hI, hf1, hf2, hc1, hc2⟩ := O
  intro H locs ls hP hS hl
  refine lv_iadd hx hb hd ?_
  rw [iI_add]
  exact (k H locs ls hP hS hl)
theorem r_isub {K : zK} {X : zX} {cc : ByteArray} {own : String} {ret : Option FieldType} {nL f pc : Nat} {lo : List (Nat × Value)} {st : List Value} {ct : zE} {x y : Int} (O : zO K X cc own ret nL f) (hd : decode cc pc = .ok (.isub, 1)) (k : G K X nL (pc + 1) lo (.int (iI (x - y)) :: st) ct) : G K X nL pc lo (.int (iI y) :: .int (iI x) :: st) ct := by
  obtain ⟨l, D, A, ad, N, cI, cC, cS⟩ := K
  obtain ⟨p, e, R, s, m, args, below, meth, c, Q, cells, slots⟩ := X
  obtain ⟨hx, hb, hr, hml, hown, hts, hlk, hK, hZ, hI, hf1, hf2, hc1, hc2⟩ := O
  intro H locs ls hP hS hl
  refine lv_isub hx hb hd ?_
  rw [iI_sub]
  exact (k H locs ls hP hS hl)
theorem r_imul {K : zK} {X : zX} {cc : ByteArray} {own : String} {ret : Option FieldType} {nL f pc : Nat} {lo : List (Nat × Value)} {st : List Value} {ct : zE} {x y : Int} (O : zO K X cc own ret nL f) (hd : decode cc pc = .ok (.imul, 1)) (k : G K X nL (pc + 1) lo (.int (iI (x * y)) :: st) ct) : G K X nL pc lo (.int (iI y) :: .int (iI x) :: st) ct := by
  obtain ⟨l, D, A, ad, N, cI, cC, cS⟩ := K
  obtain ⟨p, e, R, s, m, args, below, meth, c, Q, cells, slots⟩ := X
  obtain ⟨hx, hb, hr, hml, hown, hts, hlk, hK, hZ, hI, hf1, hf2, hc1, hc2⟩ := O
  intro H locs ls hP hS hl
  refine lv_imul hx hb hd ?_
  rw [iI_mul]
  exact (k H locs ls hP hS hl)
theorem r_idiv {K : zK} {X : zX} {cc : ByteArray} {own : String} {ret : Option FieldType} {nL f pc : Nat} {lo : List (Nat × Value)} {st : List Value} {ct : zE} {x y : Int32} {z : Int} (O : zO K X cc own ret nL f) (hne : ¬ y = 0) (hz : x / y = iI z) (hd : decode cc pc = .ok (.idiv, 1)) (k : G K X nL (pc + 1) lo (.int (iI z) :: st) ct) : G K X nL pc lo (.int y :: .int x :: st) ct := by
  obtain ⟨l, D, A, ad, N, cI, cC, cS⟩ := K
  obtain ⟨p, e, R, s, m, args, below, meth, c, Q, cells, slots⟩ := X
  obtain ⟨hx, hb, hr, hml, hown, hts, hlk, hK, hZ, hI, hf1, hf2, hc1, hc2⟩ := O
  intro H locs ls hP hS hl
  refine lv_idiv hx hb hd hne ?_
  first | (rw [hz]; exact (k H locs ls hP hS hl)) | (have h9 := (k H locs ls hP hS hl); rw [← hz] at h9; exact h9)
theorem r_irem {K : zK} {X : zX} {cc : ByteArray} {own : String} {ret : Option FieldType} {nL f pc : Nat} {lo : List (Nat × Value)} {st : List Value} {ct : zE} {x y : Int32} {z : Int} (O : zO K X cc own ret nL f) (hne : ¬ y = 0) (hz : x - x / y * y = iI z) (hd : decode cc pc = .ok (.irem, 1)) (k : G K X nL (pc + 1) lo (.int (iI z) :: st) ct) : G K X nL pc lo (.int y :: .int x :: st) ct := by
  obtain ⟨l, D, A, ad, N, cI, cC, cS⟩ := K
  obtain ⟨p, e, R, s, m, args, below, meth, c, Q, cells, slots⟩ := X
  obtain ⟨hx, hb, hr, hml, hown, hts, hlk, hK, hZ, hI, hf1, hf2, hc1, hc2⟩ := O
  intro H locs ls hP hS hl
  refine lv_irem hx hb hd hne ?_
  first | (rw [hz]; exact (k H locs ls hP hS hl)) | (have h9 := (k H locs ls hP hS hl); rw [← hz] at h9; exact h9)
theorem r_iand {K : zK} {X : zX} {cc : ByteArray} {own : String} {ret : Option FieldType} {nL f pc : Nat} {lo : List (Nat × Value)} {st : List Value} {ct : zE} {x y : Int32} {z : Int} (O : zO K X cc own ret nL f) (hz : x &&& y = iI z) (hd : decode cc pc = .ok (.iand, 1)) (k : G K X nL (pc + 1) lo (.int (iI z) :: st) ct) : G K X nL pc lo (.int y :: .int x :: st) ct := by
  obtain ⟨l, D, A, ad, N, cI, cC, cS⟩ := K
  obtain ⟨p, e, R, s, m, args, below, meth, c, Q, cells, slots⟩ := X
  obtain ⟨hx, hb, hr, hml, hown, hts, hlk, hK, hZ, hI, hf1, hf2, hc1, hc2⟩ := O
  intro H locs ls hP hS hl
  refine lv_iand hx hb hd ?_
  first | (rw [hz]; exact (k H locs ls hP hS hl)) | (have h9 := (k H locs ls hP hS hl); rw [← hz] at h9; exact h9)
theorem r_ior {K : zK} {X : zX} {cc : ByteArray} {own : String} {ret : Option FieldType} {nL f pc : Nat} {lo : List (Nat × Value)} {st : List Value} {ct : zE} {x y : Int32} {z : Int} (O : zO K X cc own ret nL f) (hz : x ||| y = iI z) (hd : decode cc pc = .ok (.ior, 1)) (k : G K X nL (pc + 1) lo (.int (iI z) :: st) ct) : G K X nL pc lo (.int y :: .int x :: st) ct := by
  obtain ⟨l, D, A, ad, N, cI, cC, cS⟩ := K
  obtain ⟨p, e, R, s, m, args, below, meth, c, Q, cells, slots⟩ := X
  obtain ⟨hx, hb, hr, hml, hown, hts, hlk, hK, hZ, hI, hf1, hf2, hc1, hc2⟩ := O
  intro H locs ls hP hS hl
  refine lv_ior hx hb hd ?_
  first | (rw [hz]; exact (k H locs ls hP hS hl)) | (have h9 := (k H locs ls hP hS hl); rw [← hz] at h9; exact h9)
theorem r_ishl {K : zK} {X : zX} {cc : ByteArray} {own : String} {ret : Option FieldType} {nL f pc : Nat} {lo : List (Nat × Value)} {st : List Value} {ct : zE} {x y : Int32} {z : Int} (O : zO K X cc own ret nL f) (hz : x <<< (y &&& 31) = iI z) (hd : decode cc pc = .ok (.ishl, 1)) (k : G K X nL (pc + 1) lo (.int (iI z) :: st) ct) : G K X nL pc lo (.int y :: .int x :: st) ct := by
  obtain ⟨l, D, A, ad, N, cI, cC, cS⟩ := K
  obtain ⟨p, e, R, s, m, args, below, meth, c, Q, cells, slots⟩ := X
  obtain ⟨hx, hb, hr, hml, hown, hts, hlk, hK, hZ, hI, hf1, hf2, hc1, hc2⟩ := O
  intro H locs ls hP hS hl
  refine lv_ishl hx hb hd ?_
  first | (rw [hz]; exact (k H locs ls hP hS hl)) | (have h9 := (k H locs ls hP hS hl); rw [← hz] at h9; exact h9)
theorem r_ishr {K : zK} {X : zX} {cc : ByteArray} {own : String} {ret : Option FieldType} {nL f pc : Nat} {lo : List (Nat × Value)} {st : List Value} {ct : zE} {x y : Int32} {z : Int} (O : zO K X cc own ret nL f) (hz : x >>> (y &&& 31) = iI z) (hd : decode cc pc = .ok (.ishr, 1)) (k : G K X nL (pc + 1) lo (.int (iI z) :: st) ct) : G K X nL pc lo (.int y :: .int x :: st) ct := by
  obtain ⟨l, D, A, ad, N, cI, cC, cS⟩ := K
  obtain ⟨p, e, R, s, m, args, below, meth, c, Q, cells, slots⟩ := X
  obtain ⟨hx, hb, hr, hml, hown, hts, hlk, hK, hZ, hI, hf1, hf2, hc1, hc2⟩ := O
  intro H locs ls hP hS hl
  refine lv_ishr hx hb hd ?_
  first | (rw [hz]; exact (k H locs ls hP hS hl)) | (have h9 := (k H locs ls hP hS hl); rw [← hz] at h9; exact h9)
theorem r_i2c {K : zK} {X : zX} {cc : ByteArray} {own : String} {ret : Option FieldType} {nL f pc : Nat} {lo : List (Nat × Value)} {st : List Value} {ct : zE} {x : Int32} {z : Int} (O : zO K X cc own ret nL f) (hz : (x.toUInt32 % 65536).toInt32 = iI z) (hd : decode cc pc = .ok (.i2c, 1)) (k : G K X nL (pc + 1) lo (.int (iI z) :: st) ct) : G K X nL pc lo (.int x :: st) ct := by
  obtain ⟨l, D, A, ad, N, cI, cC, cS⟩ := K
  obtain ⟨p, e, R, s, m, args, below, meth, c, Q, cells, slots⟩ := X
  obtain ⟨hx, hb, hr, hml, hown, hts, hlk, hK, hZ, hI, hf1, hf2, hc1, hc2⟩ := O
  intro H locs ls hP hS hl
  exact lv_i2c hx hb hd hz (k H locs ls hP hS hl)
theorem r_iushr {K : zK} {X : zX} {cc : ByteArray} {own : String} {ret : Option FieldType} {nL f pc : Nat} {lo : List (Nat × Value)} {st : List Value} {ct : zE} {x y : Int32} {z : Int} (O : zO K X cc own ret nL f) (hz : (x.toUInt32 >>> (y.toUInt32 &&& Int32.toUInt32 31)).toInt32 = iI z) (hd : decode cc pc = .ok (.iushr, 1)) (k : G K X nL (pc + 1) lo (.int (iI z) :: st) ct) : G K X nL pc lo (.int y :: .int x :: st) ct := by
  obtain ⟨l, D, A, ad, N, cI, cC, cS⟩ := K
  obtain ⟨p, e, R, s, m, args, below, meth, c, Q, cells, slots⟩ := X
  obtain ⟨hx, hb, hr, hml, hown, hts, hlk, hK, hZ, hI, hf1, hf2, hc1, hc2⟩ := O
  intro H locs ls hP hS hl
  exact lv_iushr hx hb hd hz (k H locs ls hP hS hl)
theorem r_i2l {K : zK} {X : zX} {cc : ByteArray} {own : String} {ret : Option FieldType} {nL f pc : Nat} {lo : List (Nat × Value)} {st : List Value} {ct : zE} {x : Int32} {v : Int64} (O : zO K X cc own ret nL f) (hz : x.toInt64 = v) (hd : decode cc pc = .ok (.i2l, 1)) (k : G K X nL (pc + 1) lo (.long v :: st) ct) : G K X nL pc lo (.int x :: st) ct := by
  obtain ⟨l, D, A, ad, N, cI, cC, cS⟩ := K
  obtain ⟨p, e, R, s, m, args, below, meth, c, Q, cells, slots⟩ := X
  obtain ⟨hx, hb, hr, hml, hown, hts, hlk, hK, hZ, hI, hf1, hf2, hc1, hc2⟩ := O
  intro H locs ls hP hS hl
  exact lv_i2l hx hb hd hz (k H locs ls hP hS hl)
theorem r_l2i {K : zK} {X : zX} {cc : ByteArray} {own : String} {ret : Option FieldType} {nL f pc : Nat} {lo : List (Nat × Value)} {st : List Value} {ct : zE} {x : Int64} {z : Int} (O : zO K X cc own ret nL f) (hz : x.toInt32 = iI z) (hd : decode cc pc = .ok (.l2i, 1)) (k : G K X nL (pc + 1) lo (.int (iI z) :: st) ct) : G K X nL pc lo (.long x :: st) ct := by
  obtain ⟨l, D, A, ad, N, cI, cC, cS⟩ := K
  obtain ⟨p, e, R, s, m, args, below, meth, c, Q, cells, slots⟩ := X
  obtain ⟨hx, hb, hr, hml, hown, hts, hlk, hK, hZ, hI, hf1, hf2, hc1, hc2⟩ := O
  intro H locs ls hP hS hl
  exact lv_l2i hx hb hd hz (k H locs ls hP hS hl)
theorem r_ladd {K : zK} {X : zX} {cc : ByteArray} {own : String} {ret : Option FieldType} {nL f pc : Nat} {lo : List (Nat × Value)} {st : List Value} {ct : zE} {x y v : Int64} (O : zO K X cc own ret nL f) (hz : x + y = v) (hd : decode cc pc = .ok (.ladd, 1)) (k : G K X nL (pc + 1) lo (.long v :: st) ct) : G K X nL pc lo (.long y :: .long x :: st) ct := by
  obtain ⟨l, D, A, ad, N, cI, cC, cS⟩ := K
  obtain ⟨p, e, R, s, m, args, below, meth, c, Q, cells, slots⟩ := X
  obtain ⟨hx, hb, hr, hml, hown, hts, hlk, hK, hZ, hI, hf1, hf2, hc1, hc2⟩ := O
  intro H locs ls hP hS hl
  refine lv_ladd hx hb hd ?_
  rw [hz]
  exact (k H locs ls hP hS hl)
theorem r_lmul {K : zK} {X : zX} {cc : ByteArray} {own : String} {ret : Option FieldType} {nL f pc : Nat} {lo : List (Nat × Value)} {st : List Value} {ct : zE} {x y v : Int64} (O : zO K X cc own ret nL f) (hz : x * y = v) (hd : decode cc pc = .ok (.lmul, 1)) (k : G K X nL (pc + 1) lo (.long v :: st) ct) : G K X nL pc lo (.long y :: .long x :: st) ct := by
  obtain ⟨l, D, A, ad, N, cI, cC, cS⟩ := K
  obtain ⟨p, e, R, s, m, args, below, meth, c, Q, cells, slots⟩ := X
  obtain ⟨hx, hb, hr, hml, hown, hts, hlk, hK, hZ, hI, hf1, hf2, hc1, hc2⟩ := O
  intro H locs ls hP hS hl
  refine lv_lmul hx hb hd ?_
  rw [hz]
  exact (k H locs ls hP hS hl)
theorem r_ldiv {K : zK} {X : zX} {cc : ByteArray} {own : String} {ret : Option FieldType} {nL f pc : Nat} {lo : List (Nat × Value)} {st : List Value} {ct : zE} {x y v : Int64} (O : zO K X cc own ret nL f) (hne : ¬ y = 0) (hz : x / y = v) (hd : decode cc pc = .ok (.ldiv, 1)) (k : G K X nL (pc + 1) lo (.long v :: st) ct) : G K X nL pc lo (.long y :: .long x :: st) ct := by
  obtain ⟨l, D, A, ad, N, cI, cC, cS⟩ := K
  obtain ⟨p, e, R, s, m, args, below, meth, c, Q, cells, slots⟩ := X
  obtain ⟨hx, hb, hr, hml, hown, hts, hlk, hK, hZ, hI, hf1, hf2, hc1, hc2⟩ := O
  intro H locs ls hP hS hl
  refine lv_ldiv hx hb hd hne ?_
  first | (rw [hz]; exact (k H locs ls hP hS hl)) | (have h9 := (k H locs ls hP hS hl); rw [← hz] at h9; exact h9)
theorem r_lrem {K : zK} {X : zX} {cc : ByteArray} {own : String} {ret : Option FieldType} {nL f pc : Nat} {lo : List (Nat × Value)} {st : List Value} {ct : zE} {x y v : Int64} (O : zO K X cc own ret nL f) (hne : ¬ y = 0) (hz : x - x / y * y = v) (hd : decode cc pc = .ok (.lrem, 1)) (k : G K X nL (pc + 1) lo (.long v :: st) ct) : G K X nL pc lo (.long y :: .long x :: st) ct := by
  obtain ⟨l, D, A, ad, N, cI, cC, cS⟩ := K
  obtain ⟨p, e, R, s, m, args, below, meth, c, Q, cells, slots⟩ := X
  obtain ⟨hx, hb, hr, hml, hown, hts, hlk, hK, hZ, hI, hf1, hf2, hc1, hc2⟩ := O
  intro H locs ls hP hS hl
  refine lv_lrem hx hb hd hne ?_
  first | (rw [hz]; exact (k H locs ls hP hS hl)) | (have h9 := (k H locs ls hP hS hl); rw [← hz] at h9; exact h9)
theorem r_lconst {K : zK} {X : zX} {cc : ByteArray} {own : String} {ret : Option FieldType} {nL f pc : Nat} {lo : List (Nat × Value)} {st : List Value} {ct : zE} {n : Fin 2} {v : Int64} (O : zO K X cc own ret nL f) (hv : Int64.ofNat (n : Nat) = v) (hd : decode cc pc = .ok (.lconst n, 1)) (k : G K X nL (pc + 1) lo (.long v :: st) ct) : G K X nL pc lo st ct := by
  obtain ⟨l, D, A, ad, N, cI, cC, cS⟩ := K
  obtain ⟨p, e, R, s, m, args, below, meth, c, Q, cells, slots⟩ := X
  obtain ⟨hx, hb, hr, hml, hown, hts, hlk, hK, hZ, hI, hf1, hf2, hc1, hc2⟩ := O
  intro H locs ls hP hS hl
  exact lv_lconst hx hb hd hv (k H locs ls hP hS hl)
theorem r_dup {K : zK} {X : zX} {cc : ByteArray} {own : String} {ret : Option FieldType} {nL f pc : Nat} {lo : List (Nat × Value)} {st : List Value} {ct : zE} {v : Value} (O : zO K X cc own ret nL f) (hv : v.category = 1) (hd : decode cc pc = .ok (.dup, 1)) (k : G K X nL (pc + 1) lo (v :: v :: st) ct) : G K X nL pc lo (v :: st) ct := by
  obtain ⟨l, D, A, ad, N, cI, cC, cS⟩ := K
  obtain ⟨p, e, R, s, m, args, below, meth, c, Q, cells, slots⟩ := X
  obtain ⟨hx, hb, hr, hml, hown, hts, hlk, hK, hZ, hI, hf1, hf2, hc1, hc2⟩ := O
  intro H locs ls hP hS hl
  exact lv_dup hx hb hd hv (k H locs ls hP hS hl)
theorem r_pop {K : zK} {X : zX} {cc : ByteArray} {own : String} {ret : Option FieldType} {nL f pc : Nat} {lo : List (Nat × Value)} {st : List Value} {ct : zE} {v : Value} (O : zO K X cc own ret nL f) (hv : v.category = 1) (hd : decode cc pc = .ok (.pop, 1)) (k : G K X nL (pc + 1) lo st ct) : G K X nL pc lo (v :: st) ct := by
  obtain ⟨l, D, A, ad, N, cI, cC, cS⟩ := K
  obtain ⟨p, e, R, s, m, args, below, meth, c, Q, cells, slots⟩ := X
  obtain ⟨hx, hb, hr, hml, hown, hts, hlk, hK, hZ, hI, hf1, hf2, hc1, hc2⟩ := O
  intro H locs ls hP hS hl
  exact lv_pop hx hb hd hv (k H locs ls hP hS hl)
theorem r_dup2 {K : zK} {X : zX} {cc : ByteArray} {own : String} {ret : Option FieldType} {nL f pc : Nat} {lo : List (Nat × Value)} {st : List Value} {ct : zE} {v u : Value} (O : zO K X cc own ret nL f) (hv : v.category = 1) (hu : u.category = 1) (hd : decode cc pc = .ok (.dup2, 1)) (k : G K X nL (pc + 1) lo (v :: u :: v :: u :: st) ct) : G K X nL pc lo (v :: u :: st) ct := by
  obtain ⟨l, D, A, ad, N, cI, cC, cS⟩ := K
  obtain ⟨p, e, R, s, m, args, below, meth, c, Q, cells, slots⟩ := X
  obtain ⟨hx, hb, hr, hml, hown, hts, hlk, hK, hZ, hI, hf1, hf2, hc1, hc2⟩ := O
  intro H locs ls hP hS hl
  exact lv_dup2_11 hx hb hd hv hu (k H locs ls hP hS hl)
theorem r_icmp_eq {K : zK} {X : zX} {cc : ByteArray} {own : String} {ret : Option FieldType} {nL f pc : Nat} {lo : List (Nat × Value)} {st : List Value} {ct : zE} {x y : Int} {off : Int} {tgt : Nat} (O : zO K X cc own ret nL f) (bx : zB x) (bz : zB y) (hd : decode cc pc = .ok (.if_icmp .eq off, 3)) (ht : (pc : Int) + off = (tgt : Int)) (kt : x = y → G K X nL tgt lo st ct) (kf : ¬ (x = y) → G K X nL (pc + 3) lo st ct) : G K X nL pc lo (.int (iI y) :: .int (iI x) :: st) ct := by
  obtain ⟨l, D, A, ad, N, cI, cC, cS⟩ := K
  obtain ⟨p, e, R, s, m, args, below, meth, c, Q, cells, slots⟩ := X
  obtain ⟨hx, hb, hr, hml, hown, hts, hlk, hK, hZ, hI, hf1, hf2, hc1, hc2⟩ := O
  intro H locs ls hP hS hl
  exact lv_icmp_eq hx hb hd ht (fun h => kt ((iI_inj bx bz).mp h) H locs ls hP hS hl) (fun h => kf (fun q => h ((iI_inj bx bz).mpr q)) H locs ls hP hS hl)
theorem r_if_eq {K : zK} {X : zX} {cc : ByteArray} {own : String} {ret : Option FieldType} {nL f pc : Nat} {lo : List (Nat × Value)} {st : List Value} {ct : zE} {x : Int} {off : Int} {tgt : Nat} (O : zO K X cc own ret nL f) (bx : zB x) (hd : decode cc pc = .ok (.ifCond .eq off, 3)) (ht : (pc : Int) + off = (tgt : Int)) (kt : x = 0 → G K X nL tgt lo st ct) (kf : ¬ (x = 0) → G K X nL (pc + 3) lo st ct) : G K X nL pc lo (.int (iI x) :: st) ct := by
  obtain ⟨l, D, A, ad, N, cI, cC, cS⟩ := K
  obtain ⟨p, e, R, s, m, args, below, meth, c, Q, cells, slots⟩ := X
  obtain ⟨hx, hb, hr, hml, hown, hts, hlk, hK, hZ, hI, hf1, hf2, hc1, hc2⟩ := O
  intro H locs ls hP hS hl
  have bz : zB 0 := ⟨by decide, by decide⟩
  exact lv_if_eq hx hb hd ht (fun h => kt ((iI_inj bx bz).mp h) H locs ls hP hS hl) (fun h => kf (fun q => h ((iI_inj bx bz).mpr q)) H locs ls hP hS hl)
theorem r_icmp_ne {K : zK} {X : zX} {cc : ByteArray} {own : String} {ret : Option FieldType} {nL f pc : Nat} {lo : List (Nat × Value)} {st : List Value} {ct : zE} {x y : Int} {off : Int} {tgt : Nat} (O : zO K X cc own ret nL f) (bx : zB x) (bz : zB y) (hd : decode cc pc = .ok (.if_icmp .ne off, 3)) (ht : (pc : Int) + off = (tgt : Int)) (kt : x ≠ y → G K X nL tgt lo st ct) (kf : ¬ (x ≠ y) → G K X nL (pc + 3) lo st ct) : G K X nL pc lo (.int (iI y) :: .int (iI x) :: st) ct := by
  obtain ⟨l, D, A, ad, N, cI, cC, cS⟩ := K
  obtain ⟨p, e, R, s, m, args, below, meth, c, Q, cells, slots⟩ := X
  obtain ⟨hx, hb, hr, hml, hown, hts, hlk, hK, hZ, hI, hf1, hf2, hc1, hc2⟩ := O
  intro H locs ls hP hS hl
  exact lv_icmp_ne hx hb hd ht (fun h => kt (fun q => h (by rw [q])) H locs ls hP hS hl) (fun h => kf (fun q => q ((iI_inj bx bz).mp h)) H locs ls hP hS hl)
theorem r_if_ne {K : zK} {X : zX} {cc : ByteArray} {own : String} {ret : Option FieldType} {nL f pc : Nat} {lo : List (Nat × Value)} {st : List Value} {ct : zE} {x : Int} {off : Int} {tgt : Nat} (O : zO K X cc own ret nL f) (bx : zB x) (hd : decode cc pc = .ok (.ifCond .ne off, 3)) (ht : (pc : Int) + off = (tgt : Int)) (kt : x ≠ 0 → G K X nL tgt lo st ct) (kf : ¬ (x ≠ 0) → G K X nL (pc + 3) lo st ct) : G K X nL pc lo (.int (iI x) :: st) ct := by
  obtain ⟨l, D, A, ad, N, cI, cC, cS⟩ := K
  obtain ⟨p, e, R, s, m, args, below, meth, c, Q, cells, slots⟩ := X
  obtain ⟨hx, hb, hr, hml, hown, hts, hlk, hK, hZ, hI, hf1, hf2, hc1, hc2⟩ := O
  intro H locs ls hP hS hl
  have bz : zB 0 := ⟨by decide, by decide⟩
  exact lv_if_ne hx hb hd ht (fun h => kt (fun q => h (by rw [q]; rfl)) H locs ls hP hS hl) (fun h => kf (fun q => q ((iI_inj bx bz).mp h)) H locs ls hP hS hl)
theorem r_icmp_lt {K : zK} {X : zX} {cc : ByteArray} {own : String} {ret : Option FieldType} {nL f pc : Nat} {lo : List (Nat × Value)} {st : List Value} {ct : zE} {x y : Int} {off : Int} {tgt : Nat} (O : zO K X cc own ret nL f) (bx : zB x) (bz : zB y) (hd : decode cc pc = .ok (.if_icmp .lt off, 3)) (ht : (pc : Int) + off = (tgt : Int)) (kt : x < y → G K X nL tgt lo st ct) (kf : ¬ (x < y) → G K X nL (pc + 3) lo st ct) : G K X nL pc lo (.int (iI y) :: .int (iI x) :: st) ct := by
  obtain ⟨l, D, A, ad, N, cI, cC, cS⟩ := K
  obtain ⟨p, e, R, s, m, args, below, meth, c, Q, cells, slots⟩ := X
  obtain ⟨hx, hb, hr, hml, hown, hts, hlk, hK, hZ, hI, hf1, hf2, hc1, hc2⟩ := O
  intro H locs ls hP hS hl
  exact lv_icmp_lt hx hb hd ht (fun h => kt ((iI_lt bx bz).mp h) H locs ls hP hS hl) (fun h => kf (fun q => h ((iI_lt bx bz).mpr q)) H locs ls hP hS hl)
theorem r_if_lt {K : zK} {X : zX} {cc : ByteArray} {own : String} {ret : Option FieldType} {nL f pc : Nat} {lo : List (Nat × Value)} {st : List Value} {ct : zE} {x : Int} {off : Int} {tgt : Nat} (O : zO K X cc own ret nL f) (bx : zB x) (hd : decode cc pc = .ok (.ifCond .lt off, 3)) (ht : (pc : Int) + off = (tgt : Int)) (kt : x < 0 → G K X nL tgt lo st ct) (kf : ¬ (x < 0) → G K X nL (pc + 3) lo st ct) : G K X nL pc lo (.int (iI x) :: st) ct := by
  obtain ⟨l, D, A, ad, N, cI, cC, cS⟩ := K
  obtain ⟨p, e, R, s, m, args, below, meth, c, Q, cells, slots⟩ := X
  obtain ⟨hx, hb, hr, hml, hown, hts, hlk, hK, hZ, hI, hf1, hf2, hc1, hc2⟩ := O
  intro H locs ls hP hS hl
  have bz : zB 0 := ⟨by decide, by decide⟩
  exact lv_if_lt hx hb hd ht (fun h => kt ((iI_lt bx bz).mp h) H locs ls hP hS hl) (fun h => kf (fun q => h ((iI_lt bx bz).mpr q)) H locs ls hP hS hl)
theorem r_icmp_ge {K : zK} {X : zX} {cc : ByteArray} {own : String} {ret : Option FieldType} {nL f pc : Nat} {lo : List (Nat × Value)} {st : List Value} {ct : zE} {x y : Int} {off : Int} {tgt : Nat} (O : zO K X cc own ret nL f) (bx : zB x) (bz : zB y) (hd : decode cc pc = .ok (.if_icmp .ge off, 3)) (ht : (pc : Int) + off = (tgt : Int)) (kt : y ≤ x → G K X nL tgt lo st ct) (kf : ¬ (y ≤ x) → G K X nL (pc + 3) lo st ct) : G K X nL pc lo (.int (iI y) :: .int (iI x) :: st) ct := by
  obtain ⟨l, D, A, ad, N, cI, cC, cS⟩ := K
  obtain ⟨p, e, R, s, m, args, below, meth, c, Q, cells, slots⟩ := X
  obtain ⟨hx, hb, hr, hml, hown, hts, hlk, hK, hZ, hI, hf1, hf2, hc1, hc2⟩ := O
  intro H locs ls hP hS hl
  exact lv_icmp_ge hx hb hd ht (fun h => kt ((iI_le bz bx).mp h) H locs ls hP hS hl) (fun h => kf (fun q => h ((iI_le bz bx).mpr q)) H locs ls hP hS hl)
theorem r_if_ge {K : zK} {X : zX} {cc : ByteArray} {own : String} {ret : Option FieldType} {nL f pc : Nat} {lo : List (Nat × Value)} {st : List Value} {ct : zE} {x : Int} {off : Int} {tgt : Nat} (O : zO K X cc own ret nL f) (bx : zB x) (hd : decode cc pc = .ok (.ifCond .ge off, 3)) (ht : (pc : Int) + off = (tgt : Int)) (kt : 0 ≤ x → G K X nL tgt lo st ct) (kf : ¬ (0 ≤ x) → G K X nL (pc + 3) lo st ct) : G K X nL pc lo (.int (iI x) :: st) ct := by
  obtain ⟨l, D, A, ad, N, cI, cC, cS⟩ := K
  obtain ⟨p, e, R, s, m, args, below, meth, c, Q, cells, slots⟩ := X
  obtain ⟨hx, hb, hr, hml, hown, hts, hlk, hK, hZ, hI, hf1, hf2, hc1, hc2⟩ := O
  intro H locs ls hP hS hl
  have bz : zB 0 := ⟨by decide, by decide⟩
  exact lv_if_ge hx hb hd ht (fun h => kt ((iI_le bz bx).mp h) H locs ls hP hS hl) (fun h => kf (fun q => h ((iI_le bz bx).mpr q)) H locs ls hP hS hl)
theorem r_icmp_gt {K : zK} {X : zX} {cc : ByteArray} {own : String} {ret : Option FieldType} {nL f pc : Nat} {lo : List (Nat × Value)} {st : List Value} {ct : zE} {x y : Int} {off : Int} {tgt : Nat} (O : zO K X cc own ret nL f) (bx : zB x) (bz : zB y) (hd : decode cc pc = .ok (.if_icmp .gt off, 3)) (ht : (pc : Int) + off = (tgt : Int)) (kt : y < x → G K X nL tgt lo st ct) (kf : ¬ (y < x) → G K X nL (pc + 3) lo st ct) : G K X nL pc lo (.int (iI y) :: .int (iI x) :: st) ct := by
  obtain ⟨l, D, A, ad, N, cI, cC, cS⟩ := K
  obtain ⟨p, e, R, s, m, args, below, meth, c, Q, cells, slots⟩ := X
  obtain ⟨hx, hb, hr, hml, hown, hts, hlk, hK, hZ, hI, hf1, hf2, hc1, hc2⟩ := O
  intro H locs ls hP hS hl
  exact lv_icmp_gt hx hb hd ht (fun h => kt ((iI_lt bz bx).mp h) H locs ls hP hS hl) (fun h => kf (fun q => h ((iI_lt bz bx).mpr q)) H locs ls hP hS hl)
theorem r_if_gt {K : zK} {X : zX} {cc : ByteArray} {own : String} {ret : Option FieldType} {nL f pc : Nat} {lo : List (Nat × Value)} {st : List Value} {ct : zE} {x : Int} {off : Int} {tgt : Nat} (O : zO K X cc own ret nL f) (bx : zB x) (hd : decode cc pc = .ok (.ifCond .gt off, 3)) (ht : (pc : Int) + off = (tgt : Int)) (kt : 0 < x → G K X nL tgt lo st ct) (kf : ¬ (0 < x) → G K X nL (pc + 3) lo st ct) : G K X nL pc lo (.int (iI x) :: st) ct := by
  obtain ⟨l, D, A, ad, N, cI, cC, cS⟩ := K
  obtain ⟨p, e, R, s, m, args, below, meth, c, Q, cells, slots⟩ := X
  obtain ⟨hx, hb, hr, hml, hown, hts, hlk, hK, hZ, hI, hf1, hf2, hc1, hc2⟩ := O
  intro H locs ls hP hS hl
  have bz : zB 0 := ⟨by decide, by decide⟩
  exact lv_if_gt hx hb hd ht (fun h => kt ((iI_lt bz bx).mp h) H locs ls hP hS hl) (fun h => kf (fun q => h ((iI_lt bz bx).mpr q)) H locs ls hP hS hl)
theorem r_icmp_le {K : zK} {X : zX} {cc : ByteArray} {own : String} {ret : Option FieldType} {nL f pc : Nat} {lo : List (Nat × Value)} {st : List Value} {ct : zE} {x y : Int} {off : Int} {tgt : Nat} (O : zO K X cc own ret nL f) (bx : zB x) (bz : zB y) (hd : decode cc pc = .ok (.if_icmp .le off, 3)) (ht : (pc : Int) + off = (tgt : Int)) (kt : x ≤ y → G K X nL tgt lo st ct) (kf : ¬ (x ≤ y) → G K X nL (pc + 3) lo st ct) : G K X nL pc lo (.int (iI y) :: .int (iI x) :: st) ct := by
  obtain ⟨l, D, A, ad, N, cI, cC, cS⟩ := K
  obtain ⟨p, e, R, s, m, args, below, meth, c, Q, cells, slots⟩ := X
  obtain ⟨hx, hb, hr, hml, hown, hts, hlk, hK, hZ, hI, hf1, hf2, hc1, hc2⟩ := O
  intro H locs ls hP hS hl
  exact lv_icmp_le hx hb hd ht (fun h => kt ((iI_le bx bz).mp h) H locs ls hP hS hl) (fun h => kf (fun q => h ((iI_le bx bz).mpr q)) H locs ls hP hS hl)
theorem r_if_le {K : zK} {X : zX} {cc : ByteArray} {own : String} {ret : Option FieldType} {nL f pc : Nat} {lo : List (Nat × Value)} {st : List Value} {ct : zE} {x : Int} {off : Int} {tgt : Nat} (O : zO K X cc own ret nL f) (bx : zB x) (hd : decode cc pc = .ok (.ifCond .le off, 3)) (ht : (pc : Int) + off = (tgt : Int)) (kt : x ≤ 0 → G K X nL tgt lo st ct) (kf : ¬ (x ≤ 0) → G K X nL (pc + 3) lo st ct) : G K X nL pc lo (.int (iI x) :: st) ct := by
  obtain ⟨l, D, A, ad, N, cI, cC, cS⟩ := K
  obtain ⟨p, e, R, s, m, args, below, meth, c, Q, cells, slots⟩ := X
  obtain ⟨hx, hb, hr, hml, hown, hts, hlk, hK, hZ, hI, hf1, hf2, hc1, hc2⟩ := O
  intro H locs ls hP hS hl
  have bz : zB 0 := ⟨by decide, by decide⟩
  exact lv_if_le hx hb hd ht (fun h => kt ((iI_le bx bz).mp h) H locs ls hP hS hl) (fun h => kf (fun q => h ((iI_le bx bz).mpr q)) H locs ls hP hS hl)
theorem r_goto {K : zK} {X : zX} {cc : ByteArray} {own : String} {ret : Option FieldType} {nL f pc : Nat} {lo : List (Nat × Value)} {st : List Value} {ct : zE} {off : Int} {tgt : Nat} (O : zO K X cc own ret nL f) (hd : decode cc pc = .ok (.goto off, 3)) (ht : (pc : Int) + off = (tgt : Int)) (k : G K X nL tgt lo st ct) : G K X nL pc lo st ct := by
  obtain ⟨l, D, A, ad, N, cI, cC, cS⟩ := K
  obtain ⟨p, e, R, s, m, args, below, meth, c, Q, cells, slots⟩ := X
  obtain ⟨hx, hb, hr, hml, hown, hts, hlk, hK, hZ, hI, hf1, hf2, hc1, hc2⟩ := O
  intro H locs ls hP hS hl
  exact lv_goto hx hb hd ht (k H locs ls hP hS hl)
theorem r_tabIn {K : zK} {X : zX} {cc : ByteArray} {own : String} {ret : Option FieldType} {nL f pc : Nat} {lo : List (Nat × Value)} {st : List Value} {ct : zE} {dflt lo1 hi1 : Int} {offs : Array Int} {len : Nat} {x off : Int} {tgt : Nat} (O : zO K X cc own ret nL f) (bx : zB x) (hd : decode cc pc = .ok (.tableswitch dflt lo1 hi1 offs, len)) (h1 : lo1 ≤ x) (h2 : x ≤ hi1) (ho : offs[(x - lo1).toNat]? = some off) (ht : (pc : Int) + off = (tgt : Int)) (k : G K X nL tgt lo st ct) : G K X nL pc lo (.int (iI x) :: st) ct := by
  obtain ⟨l, D, A, ad, N, cI, cC, cS⟩ := K
  obtain ⟨p, e, R, s, m, args, below, meth, c, Q, cells, slots⟩ := X
  obtain ⟨hx, hb, hr, hml, hown, hts, hlk, hK, hZ, hI, hf1, hf2, hc1, hc2⟩ := O
  intro H locs ls hP hS hl
  have e1 := iI_toInt bx
  exact lv_tableIn hx hb hd (by rw [e1]; omega) (by rw [e1]; omega) (by rw [e1]; exact ho) ht (k H locs ls hP hS hl)
theorem r_tabOut {K : zK} {X : zX} {cc : ByteArray} {own : String} {ret : Option FieldType} {nL f pc : Nat} {lo : List (Nat × Value)} {st : List Value} {ct : zE} {dflt lo1 hi1 : Int} {offs : Array Int} {len : Nat} {x : Int} {tgt : Nat} (O : zO K X cc own ret nL f) (bx : zB x) (hd : decode cc pc = .ok (.tableswitch dflt lo1 hi1 offs, len)) (h : x < lo1 ∨ hi1 < x) (ht : (pc : Int) + dflt = (tgt : Int)) (k : G K X nL tgt lo st ct) : G K X nL pc lo (.int (iI x) :: st) ct := by
  obtain ⟨l, D, A, ad, N, cI, cC, cS⟩ := K
  obtain ⟨p, e, R, s, m, args, below, meth, c, Q, cells, slots⟩ := X
  obtain ⟨hx, hb, hr, hml, hown, hts, hlk, hK, hZ, hI, hf1, hf2, hc1, hc2⟩ := O
  intro H locs ls hP hS hl
  have e1 := iI_toInt bx
  exact lv_tableOut hx hb hd (by rw [e1]; exact h) ht (k H locs ls hP hS hl)
theorem r_look {K : zK} {X : zX} {cc : ByteArray} {own : String} {ret : Option FieldType} {nL f pc : Nat} {lo : List (Nat × Value)} {st : List Value} {ct : zE} {dflt : Int} {ps : Array (Int × Int)} {len : Nat} {x off : Int} {tgt : Nat} (O : zO K X cc own ret nL f) (bx : zB x) (hd : decode cc pc = .ok (.lookupswitch dflt ps, len)) (hp : (ps.toList.zip (ps.toList.drop 1)).all (fun (a, next) => a.1 < next.1) = true) (ho : Op.lookupswitch.offset ps.toList dflt x = off) (ht : (pc : Int) + off = (tgt : Int)) (k : G K X nL tgt lo st ct) : G K X nL pc lo (.int (iI x) :: st) ct := by
  obtain ⟨l, D, A, ad, N, cI, cC, cS⟩ := K
  obtain ⟨p, e, R, s, m, args, below, meth, c, Q, cells, slots⟩ := X
  obtain ⟨hx, hb, hr, hml, hown, hts, hlk, hK, hZ, hI, hf1, hf2, hc1, hc2⟩ := O
  intro H locs ls hP hS hl
  have e1 := iI_toInt bx
  exact lv_lookup hx hb hd hp (by rw [e1]; exact ho) ht (k H locs ls hP hS hl)
theorem w_iadd {K : zK} {X : zX} {cc : ByteArray} {own : String} {ret : Option FieldType} {nL f pc : Nat} {lo : List (Nat × Value)} {st : List Value} {ct : zE} {x y : Int32} (O : zO K X cc own ret nL f) (hd : decode cc pc = .ok (.iadd, 1)) (k : G K X nL (pc + 1) lo (.int (x + y) :: st) ct) : G K X nL pc lo (.int y :: .int x :: st) ct := by
  obtain ⟨l, D, A, ad, N, cI, cC, cS⟩ := K
  obtain ⟨p, e, R, s, m, args, below, meth, c, Q, cells, slots⟩ := X
  obtain ⟨hx, hb, hr, hml, hown, hts, hlk, hK, hZ, hI, hf1, hf2, hc1, hc2⟩ := O
  intro H locs ls hP hS hl
  exact lv_iadd hx hb hd (k H locs ls hP hS hl)
theorem w_isub {K : zK} {X : zX} {cc : ByteArray} {own : String} {ret : Option FieldType} {nL f pc : Nat} {lo : List (Nat × Value)} {st : List Value} {ct : zE} {x y : Int32} (O : zO K X cc own ret nL f) (hd : decode cc pc = .ok (.isub, 1)) (k : G K X nL (pc + 1) lo (.int (x - y) :: st) ct) : G K X nL pc lo (.int y :: .int x :: st) ct := by
  obtain ⟨l, D, A, ad, N, cI, cC, cS⟩ := K
  obtain ⟨p, e, R, s, m, args, below, meth, c, Q, cells, slots⟩ := X
  obtain ⟨hx, hb, hr, hml, hown, hts, hlk, hK, hZ, hI, hf1, hf2, hc1, hc2⟩ := O
  intro H locs ls hP hS hl
  exact lv_isub hx hb hd (k H locs ls hP hS hl)
theorem w_iand {K : zK} {X : zX} {cc : ByteArray} {own : String} {ret : Option FieldType} {nL f pc : Nat} {lo : List (Nat × Value)} {st : List Value} {ct : zE} {x y : Int32} (O : zO K X cc own ret nL f) (hd : decode cc pc = .ok (.iand, 1)) (k : G K X nL (pc + 1) lo (.int (x &&& y) :: st) ct) : G K X nL pc lo (.int y :: .int x :: st) ct := by
  obtain ⟨l, D, A, ad, N, cI, cC, cS⟩ := K
  obtain ⟨p, e, R, s, m, args, below, meth, c, Q, cells, slots⟩ := X
  obtain ⟨hx, hb, hr, hml, hown, hts, hlk, hK, hZ, hI, hf1, hf2, hc1, hc2⟩ := O
  intro H locs ls hP hS hl
  exact lv_iand hx hb hd (k H locs ls hP hS hl)
theorem w_iushr {K : zK} {X : zX} {cc : ByteArray} {own : String} {ret : Option FieldType} {nL f pc : Nat} {lo : List (Nat × Value)} {st : List Value} {ct : zE} {x y : Int32} (O : zO K X cc own ret nL f) (hd : decode cc pc = .ok (.iushr, 1)) (k : G K X nL (pc + 1) lo (.int (x.toUInt32 >>> (y.toUInt32 &&& Int32.toUInt32 31)).toInt32 :: st) ct) : G K X nL pc lo (.int y :: .int x :: st) ct := by
  obtain ⟨l, D, A, ad, N, cI, cC, cS⟩ := K
  obtain ⟨p, e, R, s, m, args, below, meth, c, Q, cells, slots⟩ := X
  obtain ⟨hx, hb, hr, hml, hown, hts, hlk, hK, hZ, hI, hf1, hf2, hc1, hc2⟩ := O
  intro H locs ls hP hS hl
  exact lv_iushr hx hb hd rfl (k H locs ls hP hS hl)
theorem r_ldcw {K : zK} {X : zX} {cc : ByteArray} {own : String} {ret : Option FieldType} {nL f pc : Nat} {lo : List (Nat × Value)} {st : List Value} {ct : zE} {index : Nat} {v : Int32} (O : zO K X cc own ret nL f) (hw : Cond.constant own index v ∈ zTB) (hd : decode cc pc = .ok (.ldc_w index, 3)) (k : G K X nL (pc + 3) lo (.int v :: st) ct) : G K X nL pc lo st ct := by
  obtain ⟨l, D, A, ad, N, cI, cC, cS⟩ := K
  obtain ⟨p, e, R, s, m, args, below, meth, c, Q, cells, slots⟩ := X
  obtain ⟨hx, hb, hr, hml, hown, hts, hlk, hK, hZ, hI, hf1, hf2, hc1, hc2⟩ := O
  intro H locs ls hP hS hl
  exact lv_ldcw hx hb hown (hts _ hw) hd (k H locs ls hP hS hl)
theorem r_ldc2 {K : zK} {X : zX} {cc : ByteArray} {own : String} {ret : Option FieldType} {nL f pc : Nat} {lo : List (Nat × Value)} {st : List Value} {ct : zE} {index : Nat} {v : Int64} (O : zO K X cc own ret nL f) (hw : Cond.constantLong own index v ∈ zTB) (hd : decode cc pc = .ok (.ldc2_w index, 3)) (k : G K X nL (pc + 3) lo (.long v :: st) ct) : G K X nL pc lo st ct := by
  obtain ⟨l, D, A, ad, N, cI, cC, cS⟩ := K
  obtain ⟨p, e, R, s, m, args, below, meth, c, Q, cells, slots⟩ := X
  obtain ⟨hx, hb, hr, hml, hown, hts, hlk, hK, hZ, hI, hf1, hf2, hc1, hc2⟩ := O
  intro H locs ls hP hS hl
  exact lv_ldc2 hx hb hown (hts _ hw) hd (k H locs ls hP hS hl)
/-- a class of the worlds: its place, its fields, its words -/
def zCl (ci : Nat) (C : String) (T : u_T) (n : Nat) : Prop := vwCl[ci]? = some (C, T, n) ∧ (∀ w ∈ u_ws C T n, w ∈ zTB) ∧ (∃ ty : Nat → FieldType, ∀ k, k < n → parseFieldDescriptor (T k).2.2.1 = some (ty k)) ∧ (∀ a, a < n → ∀ b, b < n → a ≠ b → (T a).2.1 ≠ (T b).2.1) ∧ ∀ k, k < n → (T k).1 = C
theorem zCl0 : zCl 0 RX0 TX0 2 := ⟨rfl, inX0, ⟨tyX0, tyX0_ok⟩, nmX0, by decide +kernel⟩
theorem zCl1 : zCl 1 RX1 TX1 3 := ⟨rfl, inX1, ⟨tyX1, tyX1_ok⟩, nmX1, by decide +kernel⟩
theorem zCl2 : zCl 2 RX2 TX2 3 := ⟨rfl, inX2, ⟨tyX2, tyX2_ok⟩, nmX2, by decide +kernel⟩
theorem zCl3 : zCl 3 RX3 TX3 11 := ⟨rfl, inX3, ⟨tyX3, tyX3_ok⟩, nmX3, by decide +kernel⟩
theorem zCl4 : zCl 4 RX4 TX4 3 := ⟨rfl, inX4, ⟨tyX4, tyX4_ok⟩, nmX4, by decide +kernel⟩
theorem zCl5 : zCl 5 RX5 TX5 7 := ⟨rfl, inX5, ⟨tyX5, tyX5_ok⟩, nmX5, by decide +kernel⟩
theorem zCl6 : zCl 6 RX6 TX6 16 := ⟨rfl, inX6, ⟨tyX6, tyX6_ok⟩, nmX6, by decide +kernel⟩
theorem r_get {K : zK} {X : zX} {cc : ByteArray} {own : String} {ret : Option FieldType} {nL f pc : Nat} {lo : List (Nat × Value)} {st : List Value} {ct : zE} {a ci n fi index : Nat} {C : String} {T : u_T} {fs : List Value} {v : Value} (O : zO K X cc own ret nL f) (ha : a < kN K) (he : ct a = .inr (ci, fs)) (hC : zCl ci C T n) (hw : Cond.fieldLink own index C (T fi).2.1 (T fi).2.2.1 ∈ zTB) (hn : fi < n) (hv : fs[fi]? = some v) (hd : decode cc pc = .ok (.getfield index, 3)) (k : G K X nL (pc + 3) lo (v :: st) ct) : G K X nL pc lo (.ref (kad K a) :: st) ct := by
  obtain ⟨l, D, A, ad, N, cI, cC, cS⟩ := K
  obtain ⟨p, e, R, s, m, args, below, meth, c, Q, cells, slots⟩ := X
  obtain ⟨hx, hb, hr, hml, hown, hts, hlk, hK, hZ, hI, hf1, hf2, hc1, hc2⟩ := O
  intro H locs ls hP hS hl
  exact va_get (tys := _) hx hb hts hC.2.1 hown hK hP a (fs := fs) ((zwl_at ha).trans (by rw [he])) hC.1 fi hn (hts _ hw) (fun _ h9 => by rw [hC.2.2.2.2 fi hn] at h9; exact h9) hv hd (k H locs ls hP hS hl)
theorem r_put {K : zK} {X : zX} {cc : ByteArray} {own : String} {ret : Option FieldType} {nL f pc : Nat} {lo : List (Nat × Value)} {st : List Value} {ct : zE} {a ci n fi index : Nat} {C : String} {T : u_T} {fs : List Value} {v : Value} {ty : FieldType} (O : zO K X cc own ret nL f) (ha : a < kN K) (he : ct a = .inr (ci, fs)) (hC : zCl ci C T n) (hw : Cond.fieldLink own index C (T fi).2.1 (T fi).2.2.1 ∈ zTB) (hn : fi < n) (hfin : (T fi).2.2.2 = false) (hty : parseFieldDescriptor (T fi).2.2.1 = some ty) (hnr : narrow ty v = v) (hfit : fits ty v = true) (hl2 : fi < fs.length) (hd : decode cc pc = .ok (.putfield index, 3)) (k : G K X nL (pc + 3) lo st (zup ct a (.inr (ci, fs.set fi v)))) : G K X nL pc lo (v :: .ref (kad K a) :: st) ct := by
  obtain ⟨l, D, A, ad, N, cI, cC, cS⟩ := K
  obtain ⟨p, e, R, s, m, args, below, meth, c, Q, cells, slots⟩ := X
  obtain ⟨hx, hb, hr, hml, hown, hts, hlk, hK, hZ, hI, hf1, hf2, hc1, hc2⟩ := O
  intro H locs ls hP hS hl
  obtain ⟨ty0, hty0⟩ := hC.2.2.1
  refine va_put (tys := _) hx hb hts hC.2.1 ty0 hty0 hC.2.2.2.1 hown hK hP (zwl_D hI ct) hS a (fs := fs) ((zwl_at ha).trans (by rw [he])) hC.1 fi hn (hts _ hw) (fun _ h9 => by rw [hC.2.2.2.2 fi hn] at h9; exact h9) hfin hty hnr hfit hl2 hd (fun H1 locs1 hP1 _ hS1 => ?_)
  refine k H1 locs1 ls ?_ hS1 hl
  have e9 := zwl_set (K := (l, D, A, ad, N, cI, cC, cS)) (ct := ct) (k := a) (.inr (ci, fs.set fi v))
  exact e9 ▸ hP1
theorem r_iald {K : zK} {X : zX} {cc : ByteArray} {own : String} {ret : Option FieldType} {nL f pc : Nat} {lo : List (Nat × Value)} {st : List Value} {ct : zE} {a n : Nat} {g : Int → Int} {z : Int} (O : zO K X cc own ret nL f) (ha : a < kN K) (he : ct a = .inl (kI K, n, .inl (aI g))) (h0 : 0 ≤ z) (h1 : z < n) (hn : n < 2147483648) (hd : decode cc pc = .ok (.iaload, 1)) (k : G K X nL (pc + 1) lo (.int (iI (g z)) :: st) ct) : G K X nL pc lo (.int (iI z) :: .ref (kad K a) :: st) ct := by
  obtain ⟨l, D, A, ad, N, cI, cC, cS⟩ := K
  obtain ⟨p, e, R, s, m, args, below, meth, c, Q, cells, slots⟩ := X
  obtain ⟨hx, hb, hr, hml, hown, hts, hlk, hK, hZ, hI, hf1, hf2, hc1, hc2⟩ := O
  intro H locs ls hP hS hl
  refine va_iald (tys := _) hx hb hK hP a 0 ((zwl_at ha).trans (by rw [he])) rfl (iI_in h0 h1 hn) hd ?_
  rw [aI_rd g h0 (by omega)]
  exact (k H locs ls hP hS hl)
theorem r_cald {K : zK} {X : zX} {cc : ByteArray} {own : String} {ret : Option FieldType} {nL f pc : Nat} {lo : List (Nat × Value)} {st : List Value} {ct : zE} {a n : Nat} {g : Int → Int} {z : Int} (O : zO K X cc own ret nL f) (ha : a < kN K) (he : ct a = .inl (kC K, n, .inl (aI g))) (h0 : 0 ≤ z) (h1 : z < n) (hn : n < 2147483648) (hd : decode cc pc = .ok (.caload, 1)) (k : G K X nL (pc + 1) lo (.int (iI (g z)) :: st) ct) : G K X nL pc lo (.int (iI z) :: .ref (kad K a) :: st) ct := by
  obtain ⟨l, D, A, ad, N, cI, cC, cS⟩ := K
  obtain ⟨p, e, R, s, m, args, below, meth, c, Q, cells, slots⟩ := X
  obtain ⟨hx, hb, hr, hml, hown, hts, hlk, hK, hZ, hI, hf1, hf2, hc1, hc2⟩ := O
  intro H locs ls hP hS hl
  refine va_cald (tys := _) hx hb hK hP a 1 ((zwl_at ha).trans (by rw [he])) rfl (iI_in h0 h1 hn) hd ?_
  rw [aI_rd g h0 (by omega)]
  exact (k H locs ls hP hS hl)
theorem r_iast {K : zK} {X : zX} {cc : ByteArray} {own : String} {ret : Option FieldType} {nL f pc : Nat} {lo : List (Nat × Value)} {st : List Value} {ct : zE} {a n : Nat} {g : Int → Int} {z v : Int} (O : zO K X cc own ret nL f) (ha : a < kN K) (he : ct a = .inl (kI K, n, .inl (aI g))) (h0 : 0 ≤ z) (h1 : z < n) (hn : n < 2147483648) (hd : decode cc pc = .ok (.iastore, 1)) (k : G K X nL (pc + 1) lo st (zup ct a (.inl (kI K, n, .inl (aI (uI g z v)))))) : G K X nL pc lo (.int (iI v) :: .int (iI z) :: .ref (kad K a) :: st) ct := by
  obtain ⟨l, D, A, ad, N, cI, cC, cS⟩ := K
  obtain ⟨p, e, R, s, m, args, below, meth, c, Q, cells, slots⟩ := X
  obtain ⟨hx, hb, hr, hml, hown, hts, hlk, hK, hZ, hI, hf1, hf2, hc1, hc2⟩ := O
  intro H locs ls hP hS hl
  refine va_iast (tys := _) hx hb hK hP (zwl_D hI ct) hS a 0 ((zwl_at ha).trans (by rw [he])) rfl (iI_in h0 h1 hn) hd (fun H1 locs1 hP1 _ hS1 => ?_)
  refine k H1 locs1 ls ?_ hS1 hl
  rw [aI_up g v h0 (by omega)] at hP1
  have e9 := zwl_set (K := (l, D, A, ad, N, cI, cC, cS)) (ct := ct) (k := a) (.inl (cI, n, .inl (aI (uI g z v))))
  exact e9 ▸ hP1
theorem r_alen {K : zK} {X : zX} {cc : ByteArray} {own : String} {ret : Option FieldType} {nL f pc : Nat} {lo : List (Nat × Value)} {st : List Value} {ct : zE} {a : Nat} {cA : ClassId} {x : vp_A} {n : Nat} (O : zO K X cc own ret nL f) (ha : a < kN K) (he : ct a = .inl (cA, x)) (hty : cA = kI K ∨ cA = kC K ∨ cA = kS K) (hn : x.1 = n) (hd : decode cc pc = .ok (.arraylength, 1)) (k : G K X nL (pc + 1) lo (.int (iI (n : Int)) :: st) ct) : G K X nL pc lo (.ref (kad K a) :: st) ct := by
  obtain ⟨l, D, A, ad, N, cI, cC, cS⟩ := K
  obtain ⟨p, e, R, s, m, args, below, meth, c, Q, cells, slots⟩ := X
  obtain ⟨hx, hb, hr, hml, hown, hts, hlk, hK, hZ, hI, hf1, hf2, hc1, hc2⟩ := O
  intro H locs ls hP hS hl
  subst hn
  rcases hty with h | h | h
  · exact va_alen (tys := _) hx hb hK hP a 0 ((zwl_at ha).trans (by rw [he])) (by rw [h]; rfl) (iI_nat _) hd (k H locs ls hP hS hl)
  · exact va_alen (tys := _) hx hb hK hP a 1 ((zwl_at ha).trans (by rw [he])) (by rw [h]; rfl) (iI_nat _) hd (k H locs ls hP hS hl)
  · exact va_alen (tys := _) hx hb hK hP a 2 ((zwl_at ha).trans (by rw [he])) (by rw [h]; rfl) (iI_nat _) hd (k H locs ls hP hS hl)
/-- an array of references: by the cell that each place names -/
def rI (K : zK) (g : Int → Nat) : Nat → Option Nat := fun q => some (kad K (g (q : Int)))
def uN' (g : Int → Nat) (k : Int) (v : Nat) : Int → Nat := fun y => if y = k then v else g y
theorem rI_up (K : zK) (g : Int → Nat) {z : Int} (v : Nat) (h0 : 0 ≤ z) (h : z < 2147483648) : va_up (rI K g) (iI z).toNatClampNeg (some (kad K v)) = rI K (uN' g z v) := by
  funext q
  unfold va_up rI uN'
  rw [iI_cl h0 h]
  by_cases hq : q = z.toNat
  · have h2 : (q : Int) = z := by omega
    rw [if_pos hq, if_pos h2]
  · have h2 : ¬ (q : Int) = z := by omega
    rw [if_neg hq, if_neg h2]
def cpI (f g : Int → Int) (n : Int) : Int → Int := fun i => if 0 ≤ i ∧ i < n then f i else g i
theorem aI_cpy (f g : Int → Int) {n : Int} (h0 : 0 ≤ n) (h : n < 2147483648) : va_cpy (aI f) (aI g) (iI 0).toNatClampNeg (iI 0).toNatClampNeg (iI n).toNatClampNeg = aI (cpI f g n) := by
  funext q
  unfold va_cpy aI cpI
  rw [iI_cl (z := 0) (by omega) (by omega), iI_cl h0 h]
  by_cases hq : (q : Int) < n
  · rw [if_pos (by constructor <;> omega), if_pos ⟨by omega, hq⟩]
    simp
  · rw [if_neg (by omega), if_neg (by omega)]
theorem r_aald {K : zK} {X : zX} {cc : ByteArray} {own : String} {ret : Option FieldType} {nL f pc : Nat} {lo : List (Nat × Value)} {st : List Value} {ct : zE} {a n : Nat} {g : Int → Nat} {z : Int} (O : zO K X cc own ret nL f) (ha : a < kN K) (he : ct a = .inl (kS K, n, .inr (.inr (.inr (.inr (rI K g)))))) (h0 : 0 ≤ z) (h1 : z < n) (hn : n < 2147483648) (hd : decode cc pc = .ok (.aaload, 1)) (k : G K X nL (pc + 1) lo (.ref (kad K (g z)) :: st) ct) : G K X nL pc lo (.int (iI z) :: .ref (kad K a) :: st) ct := by
  obtain ⟨l, D, A, ad, N, cI, cC, cS⟩ := K
  obtain ⟨p, e, R, s, m, args, below, meth, c, Q, cells, slots⟩ := X
  obtain ⟨hx, hb, hr, hml, hown, hts, hlk, hK, hZ, hI, hf1, hf2, hc1, hc2⟩ := O
  intro H locs ls hP hS hl
  refine va_aldq (tys := _) hx hb hK hP a 2 ((zwl_at ha).trans (by rw [he])) rfl (iI_in h0 h1 hn) hd ?_
  have e9 : rI (l, D, A, ad, N, cI, cC, cS) g (iI z).toNatClampNeg = some (ad (g z)) := by
    unfold rI
    rw [iI_cl h0 (by omega), Int.toNat_of_nonneg h0]
    rfl
  rw [e9]
  exact (k H locs ls hP hS hl)
theorem r_aast {K : zK} {X : zX} {cc : ByteArray} {own : String} {ret : Option FieldType} {nL f pc : Nat} {lo : List (Nat × Value)} {st : List Value} {ct : zE} {a n v : Nat} {g : Int → Nat} {z : Int} {vs : List Value} (O : zO K X cc own ret nL f) (ha : a < kN K) (he : ct a = .inl (kS K, n, .inr (.inr (.inr (.inr (rI K g)))))) (hv : v < kN K) (hev : ct v = .inr (3, vs)) (h0 : 0 ≤ z) (h1 : z < n) (hn : n < 2147483648) (hd : decode cc pc = .ok (.aastore, 1)) (k : G K X nL (pc + 1) lo st (zup ct a (.inl (kS K, n, .inr (.inr (.inr (.inr (rI K (uN' g z v))))))))) : G K X nL pc lo (.ref (kad K v) :: .int (iI z) :: .ref (kad K a) :: st) ct := by
  obtain ⟨l, D, A, ad, N, cI, cC, cS⟩ := K
  obtain ⟨p, e, R, s, m, args, below, meth, c, Q, cells, slots⟩ := X
  obtain ⟨hx, hb, hr, hml, hown, hts, hlk, hK, hZ, hI, hf1, hf2, hc1, hc2⟩ := O
  intro H locs ls hP hS hl
  refine va_astq (tys := _) hx hb hK hP (zwl_D hI ct) hS a 2 v 3 (r := (RX3, TX3, 11)) ((zwl_at ha).trans (by rw [he])) rfl ((zwl_at hv).trans (by rw [hev])) rfl (iI_in h0 h1 hn) hd (fun H1 locs1 hP1 _ hS1 => ?_)
  refine k H1 locs1 ls ?_ hS1 hl
  have e8 := rI_up (l, D, A, ad, N, cI, cC, cS) g v h0 (by omega)
  have e7 : kad (l, D, A, ad, N, cI, cC, cS) v = ad v := rfl
  rw [e7] at e8
  have e9 := zwl_set (K := (l, D, A, ad, N, cI, cC, cS)) (ct := ct) (k := a) (.inl (cS, n, .inr (.inr (.inr (.inr (rI (l, D, A, ad, N, cI, cC, cS) (uN' g z v)))))))
  rw [← e8] at e9
  rw [← e8]
  exact e9 ▸ hP1
def zMath_min (own : String) (index : Nat) : Prop := Cond.methodLink own index Lib.Math.min.name ∈ zTB ∧ Cond.static Lib.Math.min.name ∈ zTB ∧ Cond.initialized "java/lang/Math" ∈ zTB ∧ Cond.code Lib.Math.min.name Lib.Math.min.code 2 (some .int) ∈ zTB
theorem r_min {K : zK} {X : zX} {cc : ByteArray} {own : String} {ret : Option FieldType} {nL f pc : Nat} {lo : List (Nat × Value)} {st : List Value} {ct : zE} {index : Nat} {x y : Int} (O : zO K X cc own ret nL f) (hw : zMath_min own index) (hf : 1 ≤ f) (hs : (st.map fun v => v.category).sum ≤ 8) (bx : zB x) (bz : zB y) (hd : decode cc pc = .ok (.invokestatic index, 3)) (k : G K X nL (pc + 3) lo (.int (iI (min x y)) :: st) ct) : G K X nL pc lo (.int (iI y) :: .int (iI x) :: st) ct := by
  obtain ⟨l, D, A, ad, N, cI, cC, cS⟩ := K
  obtain ⟨p, e, R, s, m, args, below, meth, c, Q, cells, slots⟩ := X
  obtain ⟨hx, hb, hr, hml, hown, hts, hlk, hK, hZ, hI, hf1, hf2, hc1, hc2⟩ := O
  intro H locs ls hP hS hl
  refine va_mmin hx hb (hml.trans hl.1.symm) hown (hts _ hw.1) (hts _ hw.2.1) (hts _ hw.2.2.1) (hts _ hw.2.2.2) (Nat.le_trans hf hf1) (by have : 32 * 1 ≤ 32 * f := Nat.mul_le_mul_left 32 hf; exact Nat.le_trans (by omega) (Nat.le_trans this hf2)) hc1 hc2 hd ?_
  have e9 : (if iI y < iI x then iI y else iI x) = iI (min x y) := by
    by_cases h : y < x
    · rw [if_pos ((iI_lt bz bx).mpr h), show min x y = y by omega]
    · rw [if_neg (fun q => h ((iI_lt bz bx).mp q)), show min x y = x by omega]
  rw [e9]
  exact (k H locs ls hP hS hl)
def zMath_max (own : String) (index : Nat) : Prop := Cond.methodLink own index Lib.Math.max.name ∈ zTB ∧ Cond.static Lib.Math.max.name ∈ zTB ∧ Cond.initialized "java/lang/Math" ∈ zTB ∧ Cond.code Lib.Math.max.name Lib.Math.max.code 2 (some .int) ∈ zTB
theorem r_max {K : zK} {X : zX} {cc : ByteArray} {own : String} {ret : Option FieldType} {nL f pc : Nat} {lo : List (Nat × Value)} {st : List Value} {ct : zE} {index : Nat} {x y : Int} (O : zO K X cc own ret nL f) (hw : zMath_max own index) (hf : 1 ≤ f) (hs : (st.map fun v => v.category).sum ≤ 8) (bx : zB x) (bz : zB y) (hd : decode cc pc = .ok (.invokestatic index, 3)) (k : G K X nL (pc + 3) lo (.int (iI (max x y)) :: st) ct) : G K X nL pc lo (.int (iI y) :: .int (iI x) :: st) ct := by
  obtain ⟨l, D, A, ad, N, cI, cC, cS⟩ := K
  obtain ⟨p, e, R, s, m, args, below, meth, c, Q, cells, slots⟩ := X
  obtain ⟨hx, hb, hr, hml, hown, hts, hlk, hK, hZ, hI, hf1, hf2, hc1, hc2⟩ := O
  intro H locs ls hP hS hl
  refine va_mmax hx hb (hml.trans hl.1.symm) hown (hts _ hw.1) (hts _ hw.2.1) (hts _ hw.2.2.1) (hts _ hw.2.2.2) (Nat.le_trans hf hf1) (by have : 32 * 1 ≤ 32 * f := Nat.mul_le_mul_left 32 hf; exact Nat.le_trans (by omega) (Nat.le_trans this hf2)) hc1 hc2 hd ?_
  have e9 : (if iI x < iI y then iI y else iI x) = iI (max x y) := by
    by_cases h : x < y
    · rw [if_pos ((iI_lt bx bz).mpr h), show max x y = y by omega]
    · rw [if_neg (fun q => h ((iI_lt bx bz).mp q)), show max x y = x by omega]
  rw [e9]
  exact (k H locs ls hP hS hl)
def zCopy (own : String) (index : Nat) : Prop := Cond.methodLink own index arraycopyName ∈ zTB ∧ Cond.native arraycopyName ∈ zTB ∧ Cond.static arraycopyName ∈ zTB ∧ Cond.initialized "java/lang/System" ∈ zTB
theorem r_copy {K : zK} {X : zX} {cc : ByteArray} {own : String} {ret : Option FieldType} {nL f pc : Nat} {lo : List (Nat × Value)} {st : List Value} {ct : zE} {index a0 a n0 n1 : Nat} {f0 g : Int → Int} {n : Int} (O : zO K X cc own ret nL f) (hw : zCopy own index) (hf : 1 ≤ f) (hs : (st.map fun v => v.category).sum ≤ 5) (ha0 : a0 < kN K) (ha : a < kN K) (he0 : ct a0 = .inl (kI K, n0, .inl (aI f0))) (he : ct a = .inl (kI K, n1, .inl (aI g))) (h0 : 0 ≤ n) (h1 : n ≤ n0) (h2 : n ≤ n1) (h3 : n < 2147483648) (hd : decode cc pc = .ok (.invokestatic index, 3)) (k : G K X nL (pc + 3) lo st (zup ct a (.inl (kI K, n1, .inl (aI (cpI f0 g n)))))) : G K X nL pc lo (.int (iI n) :: .int (iI 0) :: .ref (kad K a) :: .int (iI 0) :: .ref (kad K a0) :: st) ct := by
  obtain ⟨l, D, A, ad, N, cI, cC, cS⟩ := K
  obtain ⟨p, e, R, s, m, args, below, meth, c, Q, cells, slots⟩ := X
  obtain ⟨hx, hb, hr, hml, hown, hts, hlk, hK, hZ, hI, hf1, hf2, hc1, hc2⟩ := O
  intro H locs ls hP hS hl
  have b0 : zB 0 := ⟨by decide, by decide⟩
  have bn : zB n := ⟨by omega, by omega⟩
  have z0 : (iI 0).toNatClampNeg = 0 := iI_cl (by omega) (by omega)
  have zn : (iI n).toNatClampNeg = n.toNat := iI_cl h0 h3
  have n0' : ¬ iI 0 < 0 := by decide
  have nn : ¬ iI n < 0 := by
    intro q
    have q2 := (iI_lt bn b0).mp q
    omega
  refine va_copyi (tys := _) hx hb (hml.trans hl.1.symm) hown (hts _ hw.1) (hts _ hw.2.1) (hts _ hw.2.2.1) (hts _ hw.2.2.2) hK hP (zwl_D hI ct) hS a0 a 0 0 ((zwl_at ha0).trans (by rw [he0])) ((zwl_at ha).trans (by rw [he])) rfl rfl rfl n0' n0' nn (by rw [z0, zn]; omega) (by rw [z0, zn]; omega) (fun i _ => rfl) (Nat.le_trans hf hf1) (by have : 32 * 1 ≤ 32 * f := Nat.mul_le_mul_left 32 hf; have e4 : nativeFrameWords "java/lang/System" "arraycopy" 5 + 11 ≤ 27 := (by decide +kernel); exact Nat.le_trans (Nat.le_trans (Nat.add_le_add hs e4) (by omega)) (Nat.le_trans this hf2)) hd (fun H1 locs1 hP1 _ hS1 => ?_)
  refine k H1 locs1 ls ?_ hS1 hl
  rw [aI_cpy f0 g h0 h3] at hP1
  have e9 := zwl_set (K := (l, D, A, ad, N, cI, cC, cS)) (ct := ct) (k := a) (.inl (cI, n1, .inl (aI (cpI f0 g n))))
  exact e9 ▸ hP1
/-- a contract: from the world ct, with these arguments, the method ends and says post of its answer and its world -/
def zRoom (f : Nat) : Room := { frames := f, cells := 0, slots := 0, locals := 32 * f }
def zQi (K : zK) (post : Int → zE → Prop) : Array Value → State → Outcome → State → Prop := va_Qi (S := zE) (fun r u => ∃ z : Int, r = iI z ∧ post z u) (fun u t => va_P (kD K) vwCl (zwl K u) t.heap) (kA K)
def zQv (K : zK) (post : zE → Prop) : Array Value → State → Outcome → State → Prop := va_Qv (S := zE) (fun u => post u) (fun u t => va_P (kD K) vwCl (zwl K u) t.heap) (kA K)
def zM (K : zK) (y : MethodName) (b : ByteArray) (nL : Nat) (ret : Option FieldType) (f : Nat) (av : List Value) (ct : zE) (Qc : Array Value → State → Outcome → State → Prop) : Prop := Met (kl K) y (.code y b nL ret :: zTB) (zRoom f) (va_Pc av (zW K ct)) Qc 0 0 (kA K)
def zCi (K : zK) (y : MethodName) (b : ByteArray) (nL : Nat) (ret : Option FieldType) (f : Nat) (av : List Value) (ct : zE) (post : Int → zE → Prop) : Prop := zM K y b nL ret f av ct (zQi K post)
def zCv (K : zK) (y : MethodName) (b : ByteArray) (nL f : Nat) (av : List Value) (ct : zE) (post : zE → Prop) : Prop := zM K y b nL none f av ct (zQv K post)
def zEi (K : zK) (X : zX) (b : ByteArray) (nL : Nat) (rt : FieldType) (post : Int → zE → Prop) : Prop := ∀ (pc : Nat) (lo : List (Nat × Value)) (z : Int) (u : zE), decode b pc = .ok (.ireturn, 1) → narrow rt (.int (iI z)) = .int (iI z) → post z u → G K X nL pc lo [.int (iI z)] u
def zEv (K : zK) (X : zX) (b : ByteArray) (nL : Nat) (post : zE → Prop) : Prop := ∀ (pc : Nat) (lo : List (Nat × Value)) (u : zE), decode b pc = .ok (.return_, 1) → post u → G K X nL pc lo [] u
theorem zCi_in {K : zK} (hI : zInj K) {y : MethodName} {b : ByteArray} {nL : Nat} {rt : FieldType} {f : Nat} {av : List Value} {ct : zE} {post : Int → zE → Prop} (hy : plainName y.cls = true) (hn : (lg_sl av).length ≤ nL)
    (body : ∀ X : zX, zO K X b y.cls (some rt) nL f → zEi K X b nL rt post → G K X nL 0 (lv_args 0 av) [] ct) : zCi K y b nL (some rt) f av ct post := by
  obtain ⟨l, D, A, ad, N, cI, cC, cS⟩ := K
  refine Met.ofW (cc := b) (maxL := nL) (ret := some rt) hy rfl ?_
  intro p e s m args below meth c s₁ B hml hv
  obtain ⟨rfl, hP, hK, hZ⟩ := hv
  have hts := atoms_spec (ws := .code y b nL (some rt) :: zTB) B.pre
  rw [lg_entry_eq]
  refine body (p, e, zRoom f, s, m, av.toArray, below, meth, c, MQ below (zQi (l, D, A, ad, N, cI, cC, cS) post) av.toArray s 0 0 A, 0, 0) ⟨B.exec, B.bytes, B.returns, hml, findClass_of_methodNamed B.named, fun w hw => hts w (List.mem_cons_of_mem _ hw), B.notSynchronized, hK, hZ, hI, Nat.le_refl _, Nat.le_refl _, Nat.le_refl _, Nat.le_refl _⟩ ?_ s.heap [] _ hP va_S.rf (lv_entry av hn)
  intro pc lo z u hd hnr hpost H locs ls hP hS hl
  exact W.zret B.exec B.bytes B.returns hnr (fun t ht hW => ⟨⟨iI z, u, rfl, ⟨z, rfl, hpost⟩, by show va_P _ _ _ t.heap; rw [ht]; exact hP⟩, hS.F ht⟩) hS.2.2 hd B.notSynchronized
theorem zCv_in {K : zK} (hI : zInj K) {y : MethodName} {b : ByteArray} {nL : Nat} {f : Nat} {av : List Value} {ct : zE} {post : zE → Prop} (hy : plainName y.cls = true) (hn : (lg_sl av).length ≤ nL)
    (body : ∀ X : zX, zO K X b y.cls none nL f → zEv K X b nL post → G K X nL 0 (lv_args 0 av) [] ct) : zCv K y b nL f av ct post := by
  obtain ⟨l, D, A, ad, N, cI, cC, cS⟩ := K
  refine Met.ofW (cc := b) (maxL := nL) (ret := none) hy rfl ?_
  intro p e s m args below meth c s₁ B hml hv
  obtain ⟨rfl, hP, hK, hZ⟩ := hv
  have hts := atoms_spec (ws := .code y b nL none :: zTB) B.pre
  rw [lg_entry_eq]
  refine body (p, e, zRoom f, s, m, av.toArray, below, meth, c, MQ below (zQv (l, D, A, ad, N, cI, cC, cS) post) av.toArray s 0 0 A, 0, 0) ⟨B.exec, B.bytes, B.returns, hml, findClass_of_methodNamed B.named, fun w hw => hts w (List.mem_cons_of_mem _ hw), B.notSynchronized, hK, hZ, hI, Nat.le_refl _, Nat.le_refl _, Nat.le_refl _, Nat.le_refl _⟩ ?_ s.heap [] _ hP va_S.rf (lv_entry av hn)
  intro pc lo u hd hpost H locs ls hP hS hl
  exact W.vret B.exec B.bytes B.returns (fun t ht hW => ⟨⟨u, rfl, hpost, by show va_P _ _ _ t.heap; rw [ht]; exact hP⟩, hS.F ht⟩) hS.2.2 hd B.notSynchronized
theorem zblind {K : zK} {av : List Value} {ct : zE} : FrameBlind (va_Pc av (zW K ct)) := fun a U g mk q => by
  obtain ⟨q0, q1, q2, q3⟩ := q
  exact ⟨q0, q1, va_K.moved (u := U) (U := U.calling g mk a) (Vm.Alike.refl U.vm) q2, zNest_same rfl q3⟩
def zDs (y : MethodName) (n : Nat) : Prop := y.cls ≠ "java/lang/invoke/MethodHandle" ∧ y.cls ≠ "java/lang/invoke/VarHandle" ∧ (parseMethodDescriptor y.desc).map (fun d => d.parameters.length) = some n
/-- the words of a call: instance method; static; static of a nest mate -/
def zQV (own : String) (idx : Nat) (y : MethodName) (b : ByteArray) (nL : Nat) (ret : Option FieldType) (n : Nat) : Prop := Cond.methodLink own idx y ∈ zTB ∧ Cond.instanceMethod y ∈ zTB ∧ Cond.selects y.cls y y ∈ zTB ∧ Cond.initialized y.cls ∈ zTB ∧ Cond.code y b nL ret ∈ zTB ∧ zDs y n
def zQS (own : String) (idx : Nat) (y : MethodName) (b : ByteArray) (nL : Nat) (ret : Option FieldType) (n : Nat) : Prop := Cond.methodLink own idx y ∈ zTB ∧ Cond.static y ∈ zTB ∧ Cond.initialized y.cls ∈ zTB ∧ Cond.code y b nL ret ∈ zTB ∧ zDs y n
def zQN (own : String) (idx : Nat) (y : MethodName) (b : ByteArray) (nL : Nat) (ret : Option FieldType) (n : Nat) : Prop := (∀ U : State, zNest U → va_Nw (.methodLinkNest own idx y RX5) U) ∧ Cond.static y ∈ zTB ∧ Cond.initialized y.cls ∈ zTB ∧ Cond.code y b nL ret ∈ zTB ∧ zDs y n
theorem zgoodC {y : MethodName} {b : ByteArray} {nL : Nat} {ret : Option FieldType} (h : Cond.code y b nL ret ∈ zTB) : GoodIn zTB (.code y b nL ret :: zTB) := zgood (fun w hw => (List.mem_cons.mp hw).elim (fun e => e ▸ h) (fun h => h))
theorem zroom {f f' nL' : Nat} {R : Room} (h : f' + 1 ≤ f) (hn : nL' ≤ 13) (h1 : f ≤ R.frames) (h2 : 32 * f ≤ R.locals) : (zRoom f').frames + 1 ≤ R.frames ∧ 8 + (nL' + 11) + (zRoom f').locals ≤ R.locals := by
  refine ⟨Nat.le_trans h h1, Nat.le_trans ?_ h2⟩
  show 8 + (nL' + 11) + 32 * f' ≤ 32 * f
  omega
theorem zcat {st : List Value} (h : (st.map fun v => v.category).sum ≤ 8) {m : MethodId} {pc : Nat} {ls : Array Slot} {x : List Value} : 2 * (F0 m pc ls x).monitorRoom + (st.map fun v => v.category).sum ≤ 8 := lv_room h
theorem r_callV0i {K : zK} {X : zX} {cc : ByteArray} {own : String} {ret : Option FieldType} {nL f pc : Nat} {lo : List (Nat × Value)} {st : List Value} {ct : zE} {y : MethodName} {b : ByteArray} {nL2 f2 idx : Nat} {rt : Option FieldType} {o co : Nat} {q : String × u_T × Nat} {fs : List Value} {post : Int → zE → Prop} (O : zO K X cc own ret nL f) (hC : zCi K y b nL2 rt f2 (.ref (kad K o) :: []) ct post) (hq : zQV own idx y b nL2 rt 0) (ho : o < kN K) (he : ct o = .inr (co, fs)) (hcl : vwCl[co]? = some q) (hqc : q.1 = y.cls) (hf : f2 + 1 ≤ f) (hn : nL2 ≤ 13) (hs : (st.map fun v => v.category).sum ≤ 8) (hd : decode cc pc = .ok (.invokevirtual idx, 3)) (k : ∀ (z : Int) (u : zE), post z u → G K X nL (pc + 3) lo (.int (iI z) :: st) u) : G K X nL pc lo ( .ref (kad K o) :: st) ct := by
  obtain ⟨l, D, A, ad, N, cI, cC, cS⟩ := K
  obtain ⟨p, e, R, s, m, args, below, meth, c, Q, cells, slots⟩ := X
  obtain ⟨hx, hb, hr, hml, hown, hts, hlk, hK, hZ, hI, hf1, hf2, hc1, hc2⟩ := O
  intro H locs ls hP hS hl
  exact va_calli (va_runV (As := []) (rest := st) ⟨hx, hb, hml, hown, hts⟩ hC ⟨callB_of 0 hts (zgoodC hq.2.2.2.2.1) rfl rfl rfl (hts _ hq.2.2.2.1) (hts _ hq.1) hq.2.2.2.2.2 (zroom hf hn hf1 hf2), hts _ hq.2.1, hts _ hq.2.2.1⟩ ⟨zblind, hqc ▸ va_recv hK hP (ci := co) (q0 := o) hcl ((zwl_at ho).trans (by rw [he])), fun U hU hW => ⟨rfl, by rw [hU]; exact hP, va_K.moved hW.alike hK, zNest_warm hW hZ⟩⟩ rfl rfl hl.1 rfl (zcat hs) hd ⟨hc1, hc2⟩) hS (fun q _ h => h) (fun q h => h) (fun r u t H1 locs1 ht _ hw hB _ _ hS1 => by
    obtain ⟨z, rfl, hp⟩ := hw
    exact k z u hp H1 locs1 ls (by rw [← ht]; exact hB) hS1 hl)
theorem r_callV0v {K : zK} {X : zX} {cc : ByteArray} {own : String} {ret : Option FieldType} {nL f pc : Nat} {lo : List (Nat × Value)} {st : List Value} {ct : zE} {y : MethodName} {b : ByteArray} {nL2 f2 idx : Nat} {o co : Nat} {q : String × u_T × Nat} {fs : List Value} {post : zE → Prop} (O : zO K X cc own ret nL f) (hC : zCv K y b nL2 f2 (.ref (kad K o) :: []) ct post) (hq : zQV own idx y b nL2 none 0) (ho : o < kN K) (he : ct o = .inr (co, fs)) (hcl : vwCl[co]? = some q) (hqc : q.1 = y.cls) (hf : f2 + 1 ≤ f) (hn : nL2 ≤ 13) (hs : (st.map fun v => v.category).sum ≤ 8) (hd : decode cc pc = .ok (.invokevirtual idx, 3)) (k : ∀ u : zE, post u → G K X nL (pc + 3) lo st u) : G K X nL pc lo ( .ref (kad K o) :: st) ct := by
  obtain ⟨l, D, A, ad, N, cI, cC, cS⟩ := K
  obtain ⟨p, e, R, s, m, args, below, meth, c, Q, cells, slots⟩ := X
  obtain ⟨hx, hb, hr, hml, hown, hts, hlk, hK, hZ, hI, hf1, hf2, hc1, hc2⟩ := O
  intro H locs ls hP hS hl
  exact va_callv (va_runV (As := []) (rest := st) ⟨hx, hb, hml, hown, hts⟩ hC ⟨callB_of 0 hts (zgoodC hq.2.2.2.2.1) rfl rfl rfl (hts _ hq.2.2.2.1) (hts _ hq.1) hq.2.2.2.2.2 (zroom hf hn hf1 hf2), hts _ hq.2.1, hts _ hq.2.2.1⟩ ⟨zblind, hqc ▸ va_recv hK hP (ci := co) (q0 := o) hcl ((zwl_at ho).trans (by rw [he])), fun U hU hW => ⟨rfl, by rw [hU]; exact hP, va_K.moved hW.alike hK, zNest_warm hW hZ⟩⟩ rfl rfl hl.1 rfl (zcat hs) hd ⟨hc1, hc2⟩) hS (fun q _ h => h) (fun q h => h) (fun u t H1 locs1 ht _ hw hB _ _ hS1 => k u hw H1 locs1 ls (by rw [← ht]; exact hB) hS1 hl)
theorem r_callV1i {K : zK} {X : zX} {cc : ByteArray} {own : String} {ret : Option FieldType} {nL f pc : Nat} {lo : List (Nat × Value)} {st : List Value} {ct : zE} {y : MethodName} {b : ByteArray} {nL2 f2 idx : Nat} {rt : Option FieldType} {a1 : Value} {o co : Nat} {q : String × u_T × Nat} {fs : List Value} {post : Int → zE → Prop} (O : zO K X cc own ret nL f) (hC : zCi K y b nL2 rt f2 (.ref (kad K o) :: [a1]) ct post) (hq : zQV own idx y b nL2 rt 1) (ho : o < kN K) (he : ct o = .inr (co, fs)) (hcl : vwCl[co]? = some q) (hqc : q.1 = y.cls) (hf : f2 + 1 ≤ f) (hn : nL2 ≤ 13) (hs : (st.map fun v => v.category).sum ≤ 8) (hd : decode cc pc = .ok (.invokevirtual idx, 3)) (k : ∀ (z : Int) (u : zE), post z u → G K X nL (pc + 3) lo (.int (iI z) :: st) u) : G K X nL pc lo (a1 ::  .ref (kad K o) :: st) ct := by
  obtain ⟨l, D, A, ad, N, cI, cC, cS⟩ := K
  obtain ⟨p, e, R, s, m, args, below, meth, c, Q, cells, slots⟩ := X
  obtain ⟨hx, hb, hr, hml, hown, hts, hlk, hK, hZ, hI, hf1, hf2, hc1, hc2⟩ := O
  intro H locs ls hP hS hl
  exact va_calli (va_runV (As := [a1]) (rest := st) ⟨hx, hb, hml, hown, hts⟩ hC ⟨callB_of 1 hts (zgoodC hq.2.2.2.2.1) rfl rfl rfl (hts _ hq.2.2.2.1) (hts _ hq.1) hq.2.2.2.2.2 (zroom hf hn hf1 hf2), hts _ hq.2.1, hts _ hq.2.2.1⟩ ⟨zblind, hqc ▸ va_recv hK hP (ci := co) (q0 := o) hcl ((zwl_at ho).trans (by rw [he])), fun U hU hW => ⟨rfl, by rw [hU]; exact hP, va_K.moved hW.alike hK, zNest_warm hW hZ⟩⟩ rfl rfl hl.1 rfl (zcat hs) hd ⟨hc1, hc2⟩) hS (fun q _ h => h) (fun q h => h) (fun r u t H1 locs1 ht _ hw hB _ _ hS1 => by
    obtain ⟨z, rfl, hp⟩ := hw
    exact k z u hp H1 locs1 ls (by rw [← ht]; exact hB) hS1 hl)
theorem r_callV1v {K : zK} {X : zX} {cc : ByteArray} {own : String} {ret : Option FieldType} {nL f pc : Nat} {lo : List (Nat × Value)} {st : List Value} {ct : zE} {y : MethodName} {b : ByteArray} {nL2 f2 idx : Nat} {a1 : Value} {o co : Nat} {q : String × u_T × Nat} {fs : List Value} {post : zE → Prop} (O : zO K X cc own ret nL f) (hC : zCv K y b nL2 f2 (.ref (kad K o) :: [a1]) ct post) (hq : zQV own idx y b nL2 none 1) (ho : o < kN K) (he : ct o = .inr (co, fs)) (hcl : vwCl[co]? = some q) (hqc : q.1 = y.cls) (hf : f2 + 1 ≤ f) (hn : nL2 ≤ 13) (hs : (st.map fun v => v.category).sum ≤ 8) (hd : decode cc pc = .ok (.invokevirtual idx, 3)) (k : ∀ u : zE, post u → G K X nL (pc + 3) lo st u) : G K X nL pc lo (a1 ::  .ref (kad K o) :: st) ct := by
  obtain ⟨l, D, A, ad, N, cI, cC, cS⟩ := K
  obtain ⟨p, e, R, s, m, args, below, meth, c, Q, cells, slots⟩ := X
  obtain ⟨hx, hb, hr, hml, hown, hts, hlk, hK, hZ, hI, hf1, hf2, hc1, hc2⟩ := O
  intro H locs ls hP hS hl
  exact va_callv (va_runV (As := [a1]) (rest := st) ⟨hx, hb, hml, hown, hts⟩ hC ⟨callB_of 1 hts (zgoodC hq.2.2.2.2.1) rfl rfl rfl (hts _ hq.2.2.2.1) (hts _ hq.1) hq.2.2.2.2.2 (zroom hf hn hf1 hf2), hts _ hq.2.1, hts _ hq.2.2.1⟩ ⟨zblind, hqc ▸ va_recv hK hP (ci := co) (q0 := o) hcl ((zwl_at ho).trans (by rw [he])), fun U hU hW => ⟨rfl, by rw [hU]; exact hP, va_K.moved hW.alike hK, zNest_warm hW hZ⟩⟩ rfl rfl hl.1 rfl (zcat hs) hd ⟨hc1, hc2⟩) hS (fun q _ h => h) (fun q h => h) (fun u t H1 locs1 ht _ hw hB _ _ hS1 => k u hw H1 locs1 ls (by rw [← ht]; exact hB) hS1 hl)
theorem r_callV2i {K : zK} {X : zX} {cc : ByteArray} {own : String} {ret : Option FieldType} {nL f pc : Nat} {lo : List (Nat × Value)} {st : List Value} {ct : zE} {y : MethodName} {b : ByteArray} {nL2 f2 idx : Nat} {rt : Option FieldType} {a1 a2 : Value} {o co : Nat} {q : String × u_T × Nat} {fs : List Value} {post : Int → zE → Prop} (O : zO K X cc own ret nL f) (hC : zCi K y b nL2 rt f2 (.ref (kad K o) :: [a1, a2]) ct post) (hq : zQV own idx y b nL2 rt 2) (ho : o < kN K) (he : ct o = .inr (co, fs)) (hcl : vwCl[co]? = some q) (hqc : q.1 = y.cls) (hf : f2 + 1 ≤ f) (hn : nL2 ≤ 13) (hs : (st.map fun v => v.category).sum ≤ 8) (hd : decode cc pc = .ok (.invokevirtual idx, 3)) (k : ∀ (z : Int) (u : zE), post z u → G K X nL (pc + 3) lo (.int (iI z) :: st) u) : G K X nL pc lo (a2 :: a1 ::  .ref (kad K o) :: st) ct := by
  obtain ⟨l, D, A, ad, N, cI, cC, cS⟩ := K
  obtain ⟨p, e, R, s, m, args, below, meth, c, Q, cells, slots⟩ := X
  obtain ⟨hx, hb, hr, hml, hown, hts, hlk, hK, hZ, hI, hf1, hf2, hc1, hc2⟩ := O
  intro H locs ls hP hS hl
  exact va_calli (va_runV (As := [a1, a2]) (rest := st) ⟨hx, hb, hml, hown, hts⟩ hC ⟨callB_of 2 hts (zgoodC hq.2.2.2.2.1) rfl rfl rfl (hts _ hq.2.2.2.1) (hts _ hq.1) hq.2.2.2.2.2 (zroom hf hn hf1 hf2), hts _ hq.2.1, hts _ hq.2.2.1⟩ ⟨zblind, hqc ▸ va_recv hK hP (ci := co) (q0 := o) hcl ((zwl_at ho).trans (by rw [he])), fun U hU hW => ⟨rfl, by rw [hU]; exact hP, va_K.moved hW.alike hK, zNest_warm hW hZ⟩⟩ rfl rfl hl.1 rfl (zcat hs) hd ⟨hc1, hc2⟩) hS (fun q _ h => h) (fun q h => h) (fun r u t H1 locs1 ht _ hw hB _ _ hS1 => by
    obtain ⟨z, rfl, hp⟩ := hw
    exact k z u hp H1 locs1 ls (by rw [← ht]; exact hB) hS1 hl)
theorem r_callV2v {K : zK} {X : zX} {cc : ByteArray} {own : String} {ret : Option FieldType} {nL f pc : Nat} {lo : List (Nat × Value)} {st : List Value} {ct : zE} {y : MethodName} {b : ByteArray} {nL2 f2 idx : Nat} {a1 a2 : Value} {o co : Nat} {q : String × u_T × Nat} {fs : List Value} {post : zE → Prop} (O : zO K X cc own ret nL f) (hC : zCv K y b nL2 f2 (.ref (kad K o) :: [a1, a2]) ct post) (hq : zQV own idx y b nL2 none 2) (ho : o < kN K) (he : ct o = .inr (co, fs)) (hcl : vwCl[co]? = some q) (hqc : q.1 = y.cls) (hf : f2 + 1 ≤ f) (hn : nL2 ≤ 13) (hs : (st.map fun v => v.category).sum ≤ 8) (hd : decode cc pc = .ok (.invokevirtual idx, 3)) (k : ∀ u : zE, post u → G K X nL (pc + 3) lo st u) : G K X nL pc lo (a2 :: a1 ::  .ref (kad K o) :: st) ct := by
  obtain ⟨l, D, A, ad, N, cI, cC, cS⟩ := K
  obtain ⟨p, e, R, s, m, args, below, meth, c, Q, cells, slots⟩ := X
  obtain ⟨hx, hb, hr, hml, hown, hts, hlk, hK, hZ, hI, hf1, hf2, hc1, hc2⟩ := O
  intro H locs ls hP hS hl
  exact va_callv (va_runV (As := [a1, a2]) (rest := st) ⟨hx, hb, hml, hown, hts⟩ hC ⟨callB_of 2 hts (zgoodC hq.2.2.2.2.1) rfl rfl rfl (hts _ hq.2.2.2.1) (hts _ hq.1) hq.2.2.2.2.2 (zroom hf hn hf1 hf2), hts _ hq.2.1, hts _ hq.2.2.1⟩ ⟨zblind, hqc ▸ va_recv hK hP (ci := co) (q0 := o) hcl ((zwl_at ho).trans (by rw [he])), fun U hU hW => ⟨rfl, by rw [hU]; exact hP, va_K.moved hW.alike hK, zNest_warm hW hZ⟩⟩ rfl rfl hl.1 rfl (zcat hs) hd ⟨hc1, hc2⟩) hS (fun q _ h => h) (fun q h => h) (fun u t H1 locs1 ht _ hw hB _ _ hS1 => k u hw H1 locs1 ls (by rw [← ht]; exact hB) hS1 hl)
theorem r_callV3i {K : zK} {X : zX} {cc : ByteArray} {own : String} {ret : Option FieldType} {nL f pc : Nat} {lo : List (Nat × Value)} {st : List Value} {ct : zE} {y : MethodName} {b : ByteArray} {nL2 f2 idx : Nat} {rt : Option FieldType} {a1 a2 a3 : Value} {o co : Nat} {q : String × u_T × Nat} {fs : List Value} {post : Int → zE → Prop} (O : zO K X cc own ret nL f) (hC : zCi K y b nL2 rt f2 (.ref (kad K o) :: [a1, a2, a3]) ct post) (hq : zQV own idx y b nL2 rt 3) (ho : o < kN K) (he : ct o = .inr (co, fs)) (hcl : vwCl[co]? = some q) (hqc : q.1 = y.cls) (hf : f2 + 1 ≤ f) (hn : nL2 ≤ 13) (hs : (st.map fun v => v.category).sum ≤ 8) (hd : decode cc pc = .ok (.invokevirtual idx, 3)) (k : ∀ (z : Int) (u : zE), post z u → G K X nL (pc + 3) lo (.int (iI z) :: st) u) : G K X nL pc lo (a3 :: a2 :: a1 ::  .ref (kad K o) :: st) ct := by
  obtain ⟨l, D, A, ad, N, cI, cC, cS⟩ := K
  obtain ⟨p, e, R, s, m, args, below, meth, c, Q, cells, slots⟩ := X
  obtain ⟨hx, hb, hr, hml, hown, hts, hlk, hK, hZ, hI, hf1, hf2, hc1, hc2⟩ := O
  intro H locs ls hP hS hl
  exact va_calli (va_runV (As := [a1, a2, a3]) (rest := st) ⟨hx, hb, hml, hown, hts⟩ hC ⟨callB_of 3 hts (zgoodC hq.2.2.2.2.1) rfl rfl rfl (hts _ hq.2.2.2.1) (hts _ hq.1) hq.2.2.2.2.2 (zroom hf hn hf1 hf2), hts _ hq.2.1, hts _ hq.2.2.1⟩ ⟨zblind, hqc ▸ va_recv hK hP (ci := co) (q0 := o) hcl ((zwl_at ho).trans (by rw [he])), fun U hU hW => ⟨rfl, by rw [hU]; exact hP, va_K.moved hW.alike hK, zNest_warm hW hZ⟩⟩ rfl rfl hl.1 rfl (zcat hs) hd ⟨hc1, hc2⟩) hS (fun q _ h => h) (fun q h => h) (fun r u t H1 locs1 ht _ hw hB _ _ hS1 => by
    obtain ⟨z, rfl, hp⟩ := hw
    exact k z u hp H1 locs1 ls (by rw [← ht]; exact hB) hS1 hl)
theorem r_callV3v {K : zK} {X : zX} {cc : ByteArray} {own : String} {ret : Option FieldType} {nL f pc : Nat} {lo : List (Nat × Value)} {st : List Value} {ct : zE} {y : MethodName} {b : ByteArray} {nL2 f2 idx : Nat} {a1 a2 a3 : Value} {o co : Nat} {q : String × u_T × Nat} {fs : List Value} {post : zE → Prop} (O : zO K X cc own ret nL f) (hC : zCv K y b nL2 f2 (.ref (kad K o) :: [a1, a2, a3]) ct post) (hq : zQV own idx y b nL2 none 3) (ho : o < kN K) (he : ct o = .inr (co, fs)) (hcl : vwCl[co]? = some q) (hqc : q.1 = y.cls) (hf : f2 + 1 ≤ f) (hn : nL2 ≤ 13) (hs : (st.map fun v => v.category).sum ≤ 8) (hd : decode cc pc = .ok (.invokevirtual idx, 3)) (k : ∀ u : zE, post u → G K X nL (pc + 3) lo st u) : G K X nL pc lo (a3 :: a2 :: a1 ::  .ref (kad K o) :: st) ct := by
  obtain ⟨l, D, A, ad, N, cI, cC, cS⟩ := K
  obtain ⟨p, e, R, s, m, args, below, meth, c, Q, cells, slots⟩ := X
  obtain ⟨hx, hb, hr, hml, hown, hts, hlk, hK, hZ, hI, hf1, hf2, hc1, hc2⟩ := O
  intro H locs ls hP hS hl
  exact va_callv (va_runV (As := [a1, a2, a3]) (rest := st) ⟨hx, hb, hml, hown, hts⟩ hC ⟨callB_of 3 hts (zgoodC hq.2.2.2.2.1) rfl rfl rfl (hts _ hq.2.2.2.1) (hts _ hq.1) hq.2.2.2.2.2 (zroom hf hn hf1 hf2), hts _ hq.2.1, hts _ hq.2.2.1⟩ ⟨zblind, hqc ▸ va_recv hK hP (ci := co) (q0 := o) hcl ((zwl_at ho).trans (by rw [he])), fun U hU hW => ⟨rfl, by rw [hU]; exact hP, va_K.moved hW.alike hK, zNest_warm hW hZ⟩⟩ rfl rfl hl.1 rfl (zcat hs) hd ⟨hc1, hc2⟩) hS (fun q _ h => h) (fun q h => h) (fun u t H1 locs1 ht _ hw hB _ _ hS1 => k u hw H1 locs1 ls (by rw [← ht]; exact hB) hS1 hl)
theorem r_callV4i {K : zK} {X : zX} {cc : ByteArray} {own : String} {ret : Option FieldType} {nL f pc : Nat} {lo : List (Nat × Value)} {st : List Value} {ct : zE} {y : MethodName} {b : ByteArray} {nL2 f2 idx : Nat} {rt : Option FieldType} {a1 a2 a3 a4 : Value} {o co : Nat} {q : String × u_T × Nat} {fs : List Value} {post : Int → zE → Prop} (O : zO K X cc own ret nL f) (hC : zCi K y b nL2 rt f2 (.ref (kad K o) :: [a1, a2, a3, a4]) ct post) (hq : zQV own idx y b nL2 rt 4) (ho : o < kN K) (he : ct o = .inr (co, fs)) (hcl : vwCl[co]? = some q) (hqc : q.1 = y.cls) (hf : f2 + 1 ≤ f) (hn : nL2 ≤ 13) (hs : (st.map fun v => v.category).sum ≤ 8) (hd : decode cc pc = .ok (.invokevirtual idx, 3)) (k : ∀ (z : Int) (u : zE), post z u → G K X nL (pc + 3) lo (.int (iI z) :: st) u) : G K X nL pc lo (a4 :: a3 :: a2 :: a1 ::  .ref (kad K o) :: st) ct := by
  obtain ⟨l, D, A, ad, N, cI, cC, cS⟩ := K
  obtain ⟨p, e, R, s, m, args, below, meth, c, Q, cells, slots⟩ := X
  obtain ⟨hx, hb, hr, hml, hown, hts, hlk, hK, hZ, hI, hf1, hf2, hc1, hc2⟩ := O
  intro H locs ls hP hS hl
  exact va_calli (va_runV (As := [a1, a2, a3, a4]) (rest := st) ⟨hx, hb, hml, hown, hts⟩ hC ⟨callB_of 4 hts (zgoodC hq.2.2.2.2.1) rfl rfl rfl (hts _ hq.2.2.2.1) (hts _ hq.1) hq.2.2.2.2.2 (zroom hf hn hf1 hf2), hts _ hq.2.1, hts _ hq.2.2.1⟩ ⟨zblind, hqc ▸ va_recv hK hP (ci := co) (q0 := o) hcl ((zwl_at ho).trans (by rw [he])), fun U hU hW => ⟨rfl, by rw [hU]; exact hP, va_K.moved hW.alike hK, zNest_warm hW hZ⟩⟩ rfl rfl hl.1 rfl (zcat hs) hd ⟨hc1, hc2⟩) hS (fun q _ h => h) (fun q h => h) (fun r u t H1 locs1 ht _ hw hB _ _ hS1 => by
    obtain ⟨z, rfl, hp⟩ := hw
    exact k z u hp H1 locs1 ls (by rw [← ht]; exact hB) hS1 hl)
theorem r_callV4v {K : zK} {X : zX} {cc : ByteArray} {own : String} {ret : Option FieldType} {nL f pc : Nat} {lo : List (Nat × Value)} {st : List Value} {ct : zE} {y : MethodName} {b : ByteArray} {nL2 f2 idx : Nat} {a1 a2 a3 a4 : Value} {o co : Nat} {q : String × u_T × Nat} {fs : List Value} {post : zE → Prop} (O : zO K X cc own ret nL f) (hC : zCv K y b nL2 f2 (.ref (kad K o) :: [a1, a2, a3, a4]) ct post) (hq : zQV own idx y b nL2 none 4) (ho : o < kN K) (he : ct o = .inr (co, fs)) (hcl : vwCl[co]? = some q) (hqc : q.1 = y.cls) (hf : f2 + 1 ≤ f) (hn : nL2 ≤ 13) (hs : (st.map fun v => v.category).sum ≤ 8) (hd : decode cc pc = .ok (.invokevirtual idx, 3)) (k : ∀ u : zE, post u → G K X nL (pc + 3) lo st u) : G K X nL pc lo (a4 :: a3 :: a2 :: a1 ::  .ref (kad K o) :: st) ct := by
  obtain ⟨l, D, A, ad, N, cI, cC, cS⟩ := K
  obtain ⟨p, e, R, s, m, args, below, meth, c, Q, cells, slots⟩ := X
  obtain ⟨hx, hb, hr, hml, hown, hts, hlk, hK, hZ, hI, hf1, hf2, hc1, hc2⟩ := O
  intro H locs ls hP hS hl
  exact va_callv (va_runV (As := [a1, a2, a3, a4]) (rest := st) ⟨hx, hb, hml, hown, hts⟩ hC ⟨callB_of 4 hts (zgoodC hq.2.2.2.2.1) rfl rfl rfl (hts _ hq.2.2.2.1) (hts _ hq.1) hq.2.2.2.2.2 (zroom hf hn hf1 hf2), hts _ hq.2.1, hts _ hq.2.2.1⟩ ⟨zblind, hqc ▸ va_recv hK hP (ci := co) (q0 := o) hcl ((zwl_at ho).trans (by rw [he])), fun U hU hW => ⟨rfl, by rw [hU]; exact hP, va_K.moved hW.alike hK, zNest_warm hW hZ⟩⟩ rfl rfl hl.1 rfl (zcat hs) hd ⟨hc1, hc2⟩) hS (fun q _ h => h) (fun q h => h) (fun u t H1 locs1 ht _ hw hB _ _ hS1 => k u hw H1 locs1 ls (by rw [← ht]; exact hB) hS1 hl)
theorem r_callS0i {K : zK} {X : zX} {cc : ByteArray} {own : String} {ret : Option FieldType} {nL f pc : Nat} {lo : List (Nat × Value)} {st : List Value} {ct : zE} {y : MethodName} {b : ByteArray} {nL2 f2 idx : Nat} {rt : Option FieldType} {post : Int → zE → Prop} (O : zO K X cc own ret nL f) (hC : zCi K y b nL2 rt f2 [] ct post) (hq : zQS own idx y b nL2 rt 0) (hf : f2 + 1 ≤ f) (hn : nL2 ≤ 13) (hs : (st.map fun v => v.category).sum ≤ 8) (hd : decode cc pc = .ok (.invokestatic idx, 3)) (k : ∀ (z : Int) (u : zE), post z u → G K X nL (pc + 3) lo (.int (iI z) :: st) u) : G K X nL pc lo ( st) ct := by
  obtain ⟨l, D, A, ad, N, cI, cC, cS⟩ := K
  obtain ⟨p, e, R, s, m, args, below, meth, c, Q, cells, slots⟩ := X
  obtain ⟨hx, hb, hr, hml, hown, hts, hlk, hK, hZ, hI, hf1, hf2, hc1, hc2⟩ := O
  intro H locs ls hP hS hl
  exact va_calli (va_runS (As := []) (rest := st) ⟨hx, hb, hml, hown, hts⟩ hC ⟨callB_of 0 hts (zgoodC hq.2.2.2.1) rfl rfl rfl (hts _ hq.2.2.1) (hts _ hq.1) hq.2.2.2.2 (zroom hf hn hf1 hf2), hts _ hq.2.1⟩ ⟨zblind, fun U hU hW => ⟨rfl, by rw [hU]; exact hP, va_K.moved hW.alike hK, zNest_warm hW hZ⟩⟩ rfl rfl hl.1 rfl (zcat hs) hd ⟨hc1, hc2⟩) hS (fun q _ h => h) (fun q h => h) (fun r u t H1 locs1 ht _ hw hB _ _ hS1 => by
    obtain ⟨z, rfl, hp⟩ := hw
    exact k z u hp H1 locs1 ls (by rw [← ht]; exact hB) hS1 hl)
theorem r_callS0v {K : zK} {X : zX} {cc : ByteArray} {own : String} {ret : Option FieldType} {nL f pc : Nat} {lo : List (Nat × Value)} {st : List Value} {ct : zE} {y : MethodName} {b : ByteArray} {nL2 f2 idx : Nat} {post : zE → Prop} (O : zO K X cc own ret nL f) (hC : zCv K y b nL2 f2 [] ct post) (hq : zQS own idx y b nL2 none 0) (hf : f2 + 1 ≤ f) (hn : nL2 ≤ 13) (hs : (st.map fun v => v.category).sum ≤ 8) (hd : decode cc pc = .ok (.invokestatic idx, 3)) (k : ∀ u : zE, post u → G K X nL (pc + 3) lo st u) : G K X nL pc lo ( st) ct := by
  obtain ⟨l, D, A, ad, N, cI, cC, cS⟩ := K
  obtain ⟨p, e, R, s, m, args, below, meth, c, Q, cells, slots⟩ := X
  obtain ⟨hx, hb, hr, hml, hown, hts, hlk, hK, hZ, hI, hf1, hf2, hc1, hc2⟩ := O
  intro H locs ls hP hS hl
  exact va_callv (va_runS (As := []) (rest := st) ⟨hx, hb, hml, hown, hts⟩ hC ⟨callB_of 0 hts (zgoodC hq.2.2.2.1) rfl rfl rfl (hts _ hq.2.2.1) (hts _ hq.1) hq.2.2.2.2 (zroom hf hn hf1 hf2), hts _ hq.2.1⟩ ⟨zblind, fun U hU hW => ⟨rfl, by rw [hU]; exact hP, va_K.moved hW.alike hK, zNest_warm hW hZ⟩⟩ rfl rfl hl.1 rfl (zcat hs) hd ⟨hc1, hc2⟩) hS (fun q _ h => h) (fun q h => h) (fun u t H1 locs1 ht _ hw hB _ _ hS1 => k u hw H1 locs1 ls (by rw [← ht]; exact hB) hS1 hl)
theorem r_callS1i {K : zK} {X : zX} {cc : ByteArray} {own : String} {ret : Option FieldType} {nL f pc : Nat} {lo : List (Nat × Value)} {st : List Value} {ct : zE} {y : MethodName} {b : ByteArray} {nL2 f2 idx : Nat} {rt : Option FieldType} {a1 : Value} {post : Int → zE → Prop} (O : zO K X cc own ret nL f) (hC : zCi K y b nL2 rt f2 [a1] ct post) (hq : zQS own idx y b nL2 rt 1) (hf : f2 + 1 ≤ f) (hn : nL2 ≤ 13) (hs : (st.map fun v => v.category).sum ≤ 8) (hd : decode cc pc = .ok (.invokestatic idx, 3)) (k : ∀ (z : Int) (u : zE), post z u → G K X nL (pc + 3) lo (.int (iI z) :: st) u) : G K X nL pc lo (a1 ::  st) ct := by
  obtain ⟨l, D, A, ad, N, cI, cC, cS⟩ := K
  obtain ⟨p, e, R, s, m, args, below, meth, c, Q, cells, slots⟩ := X
  obtain ⟨hx, hb, hr, hml, hown, hts, hlk, hK, hZ, hI, hf1, hf2, hc1, hc2⟩ := O
  intro H locs ls hP hS hl
  exact va_calli (va_runS (As := [a1]) (rest := st) ⟨hx, hb, hml, hown, hts⟩ hC ⟨callB_of 1 hts (zgoodC hq.2.2.2.1) rfl rfl rfl (hts _ hq.2.2.1) (hts _ hq.1) hq.2.2.2.2 (zroom hf hn hf1 hf2), hts _ hq.2.1⟩ ⟨zblind, fun U hU hW => ⟨rfl, by rw [hU]; exact hP, va_K.moved hW.alike hK, zNest_warm hW hZ⟩⟩ rfl rfl hl.1 rfl (zcat hs) hd ⟨hc1, hc2⟩) hS (fun q _ h => h) (fun q h => h) (fun r u t H1 locs1 ht _ hw hB _ _ hS1 => by
    obtain ⟨z, rfl, hp⟩ := hw
    exact k z u hp H1 locs1 ls (by rw [← ht]; exact hB) hS1 hl)
theorem r_callS1v {K : zK} {X : zX} {cc : ByteArray} {own : String} {ret : Option FieldType} {nL f pc : Nat} {lo : List (Nat × Value)} {st : List Value} {ct : zE} {y : MethodName} {b : ByteArray} {nL2 f2 idx : Nat} {a1 : Value} {post : zE → Prop} (O : zO K X cc own ret nL f) (hC : zCv K y b nL2 f2 [a1] ct post) (hq : zQS own idx y b nL2 none 1) (hf : f2 + 1 ≤ f) (hn : nL2 ≤ 13) (hs : (st.map fun v => v.category).sum ≤ 8) (hd : decode cc pc = .ok (.invokestatic idx, 3)) (k : ∀ u : zE, post u → G K X nL (pc + 3) lo st u) : G K X nL pc lo (a1 ::  st) ct := by
  obtain ⟨l, D, A, ad, N, cI, cC, cS⟩ := K
  obtain ⟨p, e, R, s, m, args, below, meth, c, Q, cells, slots⟩ := X
  obtain ⟨hx, hb, hr, hml, hown, hts, hlk, hK, hZ, hI, hf1, hf2, hc1, hc2⟩ := O
  intro H locs ls hP hS hl
  exact va_callv (va_runS (As := [a1]) (rest := st) ⟨hx, hb, hml, hown, hts⟩ hC ⟨callB_of 1 hts (zgoodC hq.2.2.2.1) rfl rfl rfl (hts _ hq.2.2.1) (hts _ hq.1) hq.2.2.2.2 (zroom hf hn hf1 hf2), hts _ hq.2.1⟩ ⟨zblind, fun U hU hW => ⟨rfl, by rw [hU]; exact hP, va_K.moved hW.alike hK, zNest_warm hW hZ⟩⟩ rfl rfl hl.1 rfl (zcat hs) hd ⟨hc1, hc2⟩) hS (fun q _ h => h) (fun q h => h) (fun u t H1 locs1 ht _ hw hB _ _ hS1 => k u hw H1 locs1 ls (by rw [← ht]; exact hB) hS1 hl)
theorem r_callS2i {K : zK} {X : zX} {cc : ByteArray} {own : String} {ret : Option FieldType} {nL f pc : Nat} {lo : List (Nat × Value)} {st : List Value} {ct : zE} {y : MethodName} {b : ByteArray} {nL2 f2 idx : Nat} {rt : Option FieldType} {a1 a2 : Value} {post : Int → zE → Prop} (O : zO K X cc own ret nL f) (hC : zCi K y b nL2 rt f2 [a1, a2] ct post) (hq : zQS own idx y b nL2 rt 2) (hf : f2 + 1 ≤ f) (hn : nL2 ≤ 13) (hs : (st.map fun v => v.category).sum ≤ 8) (hd : decode cc pc = .ok (.invokestatic idx, 3)) (k : ∀ (z : Int) (u : zE), post z u → G K X nL (pc + 3) lo (.int (iI z) :: st) u) : G K X nL pc lo (a2 :: a1 ::  st) ct := by
  obtain ⟨l, D, A, ad, N, cI, cC, cS⟩ := K
  obtain ⟨p, e, R, s, m, args, below, meth, c, Q, cells, slots⟩ := X
  obtain ⟨hx, hb, hr, hml, hown, hts, hlk, hK, hZ, hI, hf1, hf2, hc1, hc2⟩ := O
  intro H locs ls hP hS hl
  exact va_calli (va_runS (As := [a1, a2]) (rest := st) ⟨hx, hb, hml, hown, hts⟩ hC ⟨callB_of 2 hts (zgoodC hq.2.2.2.1) rfl rfl rfl (hts _ hq.2.2.1) (hts _ hq.1) hq.2.2.2.2 (zroom hf hn hf1 hf2), hts _ hq.2.1⟩ ⟨zblind, fun U hU hW => ⟨rfl, by rw [hU]; exact hP, va_K.moved hW.alike hK, zNest_warm hW hZ⟩⟩ rfl rfl hl.1 rfl (zcat hs) hd ⟨hc1, hc2⟩) hS (fun q _ h => h) (fun q h => h) (fun r u t H1 locs1 ht _ hw hB _ _ hS1 => by
    obtain ⟨z, rfl, hp⟩ := hw
    exact k z u hp H1 locs1 ls (by rw [← ht]; exact hB) hS1 hl)
theorem r_callS2v {K : zK} {X : zX} {cc : ByteArray} {own : String} {ret : Option FieldType} {nL f pc : Nat} {lo : List (Nat × Value)} {st : List Value} {ct : zE} {y : MethodName} {b : ByteArray} {nL2 f2 idx : Nat} {a1 a2 : Value} {post : zE → Prop} (O : zO K X cc own ret nL f) (hC : zCv K y b nL2 f2 [a1, a2] ct post) (hq : zQS own idx y b nL2 none 2) (hf : f2 + 1 ≤ f) (hn : nL2 ≤ 13) (hs : (st.map fun v => v.category).sum ≤ 8) (hd : decode cc pc = .ok (.invokestatic idx, 3)) (k : ∀ u : zE, post u → G K X nL (pc + 3) lo st u) : G K X nL pc lo (a2 :: a1 ::  st) ct := by
  obtain ⟨l, D, A, ad, N, cI, cC, cS⟩ := K
  obtain ⟨p, e, R, s, m, args, below, meth, c, Q, cells, slots⟩ := X
  obtain ⟨hx, hb, hr, hml, hown, hts, hlk, hK, hZ, hI, hf1, hf2, hc1, hc2⟩ := O
  intro H locs ls hP hS hl
  exact va_callv (va_runS (As := [a1, a2]) (rest := st) ⟨hx, hb, hml, hown, hts⟩ hC ⟨callB_of 2 hts (zgoodC hq.2.2.2.1) rfl rfl rfl (hts _ hq.2.2.1) (hts _ hq.1) hq.2.2.2.2 (zroom hf hn hf1 hf2), hts _ hq.2.1⟩ ⟨zblind, fun U hU hW => ⟨rfl, by rw [hU]; exact hP, va_K.moved hW.alike hK, zNest_warm hW hZ⟩⟩ rfl rfl hl.1 rfl (zcat hs) hd ⟨hc1, hc2⟩) hS (fun q _ h => h) (fun q h => h) (fun u t H1 locs1 ht _ hw hB _ _ hS1 => k u hw H1 locs1 ls (by rw [← ht]; exact hB) hS1 hl)
theorem r_callS3i {K : zK} {X : zX} {cc : ByteArray} {own : String} {ret : Option FieldType} {nL f pc : Nat} {lo : List (Nat × Value)} {st : List Value} {ct : zE} {y : MethodName} {b : ByteArray} {nL2 f2 idx : Nat} {rt : Option FieldType} {a1 a2 a3 : Value} {post : Int → zE → Prop} (O : zO K X cc own ret nL f) (hC : zCi K y b nL2 rt f2 [a1, a2, a3] ct post) (hq : zQS own idx y b nL2 rt 3) (hf : f2 + 1 ≤ f) (hn : nL2 ≤ 13) (hs : (st.map fun v => v.category).sum ≤ 8) (hd : decode cc pc = .ok (.invokestatic idx, 3)) (k : ∀ (z : Int) (u : zE), post z u → G K X nL (pc + 3) lo (.int (iI z) :: st) u) : G K X nL pc lo (a3 :: a2 :: a1 ::  st) ct := by
  obtain ⟨l, D, A, ad, N, cI, cC, cS⟩ := K
  obtain ⟨p, e, R, s, m, args, below, meth, c, Q, cells, slots⟩ := X
  obtain ⟨hx, hb, hr, hml, hown, hts, hlk, hK, hZ, hI, hf1, hf2, hc1, hc2⟩ := O
  intro H locs ls hP hS hl
  exact va_calli (va_runS (As := [a1, a2, a3]) (rest := st) ⟨hx, hb, hml, hown, hts⟩ hC ⟨callB_of 3 hts (zgoodC hq.2.2.2.1) rfl rfl rfl (hts _ hq.2.2.1) (hts _ hq.1) hq.2.2.2.2 (zroom hf hn hf1 hf2), hts _ hq.2.1⟩ ⟨zblind, fun U hU hW => ⟨rfl, by rw [hU]; exact hP, va_K.moved hW.alike hK, zNest_warm hW hZ⟩⟩ rfl rfl hl.1 rfl (zcat hs) hd ⟨hc1, hc2⟩) hS (fun q _ h => h) (fun q h => h) (fun r u t H1 locs1 ht _ hw hB _ _ hS1 => by
    obtain ⟨z, rfl, hp⟩ := hw
    exact k z u hp H1 locs1 ls (by rw [← ht]; exact hB) hS1 hl)
theorem r_callS3v {K : zK} {X : zX} {cc : ByteArray} {own : String} {ret : Option FieldType} {nL f pc : Nat} {lo : List (Nat × Value)} {st : List Value} {ct : zE} {y : MethodName} {b : ByteArray} {nL2 f2 idx : Nat} {a1 a2 a3 : Value} {post : zE → Prop} (O : zO K X cc own ret nL f) (hC : zCv K y b nL2 f2 [a1, a2, a3] ct post) (hq : zQS own idx y b nL2 none 3) (hf : f2 + 1 ≤ f) (hn : nL2 ≤ 13) (hs : (st.map fun v => v.category).sum ≤ 8) (hd : decode cc pc = .ok (.invokestatic idx, 3)) (k : ∀ u : zE, post u → G K X nL (pc + 3) lo st u) : G K X nL pc lo (a3 :: a2 :: a1 ::  st) ct := by
  obtain ⟨l, D, A, ad, N, cI, cC, cS⟩ := K
  obtain ⟨p, e, R, s, m, args, below, meth, c, Q, cells, slots⟩ := X
  obtain ⟨hx, hb, hr, hml, hown, hts, hlk, hK, hZ, hI, hf1, hf2, hc1, hc2⟩ := O
  intro H locs ls hP hS hl
  exact va_callv (va_runS (As := [a1, a2, a3]) (rest := st) ⟨hx, hb, hml, hown, hts⟩ hC ⟨callB_of 3 hts (zgoodC hq.2.2.2.1) rfl rfl rfl (hts _ hq.2.2.1) (hts _ hq.1) hq.2.2.2.2 (zroom hf hn hf1 hf2), hts _ hq.2.1⟩ ⟨zblind, fun U hU hW => ⟨rfl, by rw [hU]; exact hP, va_K.moved hW.alike hK, zNest_warm hW hZ⟩⟩ rfl rfl hl.1 rfl (zcat hs) hd ⟨hc1, hc2⟩) hS (fun q _ h => h) (fun q h => h) (fun u t H1 locs1 ht _ hw hB _ _ hS1 => k u hw H1 locs1 ls (by rw [← ht]; exact hB) hS1 hl)
theorem r_callS4i {K : zK} {X : zX} {cc : ByteArray} {own : String} {ret : Option FieldType} {nL f pc : Nat} {lo : List (Nat × Value)} {st : List Value} {ct : zE} {y : MethodName} {b : ByteArray} {nL2 f2 idx : Nat} {rt : Option FieldType} {a1 a2 a3 a4 : Value} {post : Int → zE → Prop} (O : zO K X cc own ret nL f) (hC : zCi K y b nL2 rt f2 [a1, a2, a3, a4] ct post) (hq : zQS own idx y b nL2 rt 4) (hf : f2 + 1 ≤ f) (hn : nL2 ≤ 13) (hs : (st.map fun v => v.category).sum ≤ 8) (hd : decode cc pc = .ok (.invokestatic idx, 3)) (k : ∀ (z : Int) (u : zE), post z u → G K X nL (pc + 3) lo (.int (iI z) :: st) u) : G K X nL pc lo (a4 :: a3 :: a2 :: a1 ::  st) ct := by
  obtain ⟨l, D, A, ad, N, cI, cC, cS⟩ := K
  obtain ⟨p, e, R, s, m, args, below, meth, c, Q, cells, slots⟩ := X
  obtain ⟨hx, hb, hr, hml, hown, hts, hlk, hK, hZ, hI, hf1, hf2, hc1, hc2⟩ := O
  intro H locs ls hP hS hl
  exact va_calli (va_runS (As := [a1, a2, a3, a4]) (rest := st) ⟨hx, hb, hml, hown, hts⟩ hC ⟨callB_of 4 hts (zgoodC hq.2.2.2.1) rfl rfl rfl (hts _ hq.2.2.1) (hts _ hq.1) hq.2.2.2.2 (zroom hf hn hf1 hf2), hts _ hq.2.1⟩ ⟨zblind, fun U hU hW => ⟨rfl, by rw [hU]; exact hP, va_K.moved hW.alike hK, zNest_warm hW hZ⟩⟩ rfl rfl hl.1 rfl (zcat hs) hd ⟨hc1, hc2⟩) hS (fun q _ h => h) (fun q h => h) (fun r u t H1 locs1 ht _ hw hB _ _ hS1 => by
    obtain ⟨z, rfl, hp⟩ := hw
    exact k z u hp H1 locs1 ls (by rw [← ht]; exact hB) hS1 hl)
theorem r_callS4v {K : zK} {X : zX} {cc : ByteArray} {own : String} {ret : Option FieldType} {nL f pc : Nat} {lo : List (Nat × Value)} {st : List Value} {ct : zE} {y : MethodName} {b : ByteArray} {nL2 f2 idx : Nat} {a1 a2 a3 a4 : Value} {post : zE → Prop} (O : zO K X cc own ret nL f) (hC : zCv K y b nL2 f2 [a1, a2, a3, a4] ct post) (hq : zQS own idx y b nL2 none 4) (hf : f2 + 1 ≤ f) (hn : nL2 ≤ 13) (hs : (st.map fun v => v.category).sum ≤ 8) (hd : decode cc pc = .ok (.invokestatic idx, 3)) (k : ∀ u : zE, post u → G K X nL (pc + 3) lo st u) : G K X nL pc lo (a4 :: a3 :: a2 :: a1 ::  st) ct := by
  obtain ⟨l, D, A, ad, N, cI, cC, cS⟩ := K
  obtain ⟨p, e, R, s, m, args, below, meth, c, Q, cells, slots⟩ := X
  obtain ⟨hx, hb, hr, hml, hown, hts, hlk, hK, hZ, hI, hf1, hf2, hc1, hc2⟩ := O
  intro H locs ls hP hS hl
  exact va_callv (va_runS (As := [a1, a2, a3, a4]) (rest := st) ⟨hx, hb, hml, hown, hts⟩ hC ⟨callB_of 4 hts (zgoodC hq.2.2.2.1) rfl rfl rfl (hts _ hq.2.2.1) (hts _ hq.1) hq.2.2.2.2 (zroom hf hn hf1 hf2), hts _ hq.2.1⟩ ⟨zblind, fun U hU hW => ⟨rfl, by rw [hU]; exact hP, va_K.moved hW.alike hK, zNest_warm hW hZ⟩⟩ rfl rfl hl.1 rfl (zcat hs) hd ⟨hc1, hc2⟩) hS (fun q _ h => h) (fun q h => h) (fun u t H1 locs1 ht _ hw hB _ _ hS1 => k u hw H1 locs1 ls (by rw [← ht]; exact hB) hS1 hl)
theorem r_callN0i {K : zK} {X : zX} {cc : ByteArray} {own : String} {ret : Option FieldType} {nL f pc : Nat} {lo : List (Nat × Value)} {st : List Value} {ct : zE} {y : MethodName} {b : ByteArray} {nL2 f2 idx : Nat} {rt : Option FieldType} {post : Int → zE → Prop} (O : zO K X cc own ret nL f) (hC : zCi K y b nL2 rt f2 [] ct post) (hq : zQN own idx y b nL2 rt 0) (hf : f2 + 1 ≤ f) (hn : nL2 ≤ 13) (hs : (st.map fun v => v.category).sum ≤ 8) (hd : decode cc pc = .ok (.invokestatic idx, 3)) (k : ∀ (z : Int) (u : zE), post z u → G K X nL (pc + 3) lo (.int (iI z) :: st) u) : G K X nL pc lo ( st) ct := by
  obtain ⟨l, D, A, ad, N, cI, cC, cS⟩ := K
  obtain ⟨p, e, R, s, m, args, below, meth, c, Q, cells, slots⟩ := X
  obtain ⟨hx, hb, hr, hml, hown, hts, hlk, hK, hZ, hI, hf1, hf2, hc1, hc2⟩ := O
  intro H locs ls hP hS hl
  exact va_calli (va_runSN (As := []) (rest := st) ⟨hx, hb, hml, hown, hts⟩ hC ⟨va_cnB 0 hts (zgoodC hq.2.2.2.1) rfl rfl rfl (hq.1 _ hZ) (hts _ hq.2.2.1) hq.2.2.2.2 (zroom hf hn hf1 hf2), hts _ hq.2.1, trivial⟩ ⟨zblind, fun U hU hW => ⟨rfl, by rw [hU]; exact hP, va_K.moved hW.alike hK, zNest_warm hW hZ⟩⟩ rfl rfl hl.1 rfl (zcat hs) hd ⟨hc1, hc2⟩) hS (fun q _ h => h) (fun q h => h) (fun r u t H1 locs1 ht _ hw hB _ _ hS1 => by
    obtain ⟨z, rfl, hp⟩ := hw
    exact k z u hp H1 locs1 ls (by rw [← ht]; exact hB) hS1 hl)
theorem r_callN0v {K : zK} {X : zX} {cc : ByteArray} {own : String} {ret : Option FieldType} {nL f pc : Nat} {lo : List (Nat × Value)} {st : List Value} {ct : zE} {y : MethodName} {b : ByteArray} {nL2 f2 idx : Nat} {post : zE → Prop} (O : zO K X cc own ret nL f) (hC : zCv K y b nL2 f2 [] ct post) (hq : zQN own idx y b nL2 none 0) (hf : f2 + 1 ≤ f) (hn : nL2 ≤ 13) (hs : (st.map fun v => v.category).sum ≤ 8) (hd : decode cc pc = .ok (.invokestatic idx, 3)) (k : ∀ u : zE, post u → G K X nL (pc + 3) lo st u) : G K X nL pc lo ( st) ct := by
  obtain ⟨l, D, A, ad, N, cI, cC, cS⟩ := K
  obtain ⟨p, e, R, s, m, args, below, meth, c, Q, cells, slots⟩ := X
  obtain ⟨hx, hb, hr, hml, hown, hts, hlk, hK, hZ, hI, hf1, hf2, hc1, hc2⟩ := O
  intro H locs ls hP hS hl
  exact va_callv (va_runSN (As := []) (rest := st) ⟨hx, hb, hml, hown, hts⟩ hC ⟨va_cnB 0 hts (zgoodC hq.2.2.2.1) rfl rfl rfl (hq.1 _ hZ) (hts _ hq.2.2.1) hq.2.2.2.2 (zroom hf hn hf1 hf2), hts _ hq.2.1, trivial⟩ ⟨zblind, fun U hU hW => ⟨rfl, by rw [hU]; exact hP, va_K.moved hW.alike hK, zNest_warm hW hZ⟩⟩ rfl rfl hl.1 rfl (zcat hs) hd ⟨hc1, hc2⟩) hS (fun q _ h => h) (fun q h => h) (fun u t H1 locs1 ht _ hw hB _ _ hS1 => k u hw H1 locs1 ls (by rw [← ht]; exact hB) hS1 hl)
theorem r_callN1i {K : zK} {X : zX} {cc : ByteArray} {own : String} {ret : Option FieldType} {nL f pc : Nat} {lo : List (Nat × Value)} {st : List Value} {ct : zE} {y : MethodName} {b : ByteArray} {nL2 f2 idx : Nat} {rt : Option FieldType} {a1 : Value} {post : Int → zE → Prop} (O : zO K X cc own ret nL f) (hC : zCi K y b nL2 rt f2 [a1] ct post) (hq : zQN own idx y b nL2 rt 1) (hf : f2 + 1 ≤ f) (hn : nL2 ≤ 13) (hs : (st.map fun v => v.category).sum ≤ 8) (hd : decode cc pc = .ok (.invokestatic idx, 3)) (k : ∀ (z : Int) (u : zE), post z u → G K X nL (pc + 3) lo (.int (iI z) :: st) u) : G K X nL pc lo (a1 ::  st) ct := by
  obtain ⟨l, D, A, ad, N, cI, cC, cS⟩ := K
  obtain ⟨p, e, R, s, m, args, below, meth, c, Q, cells, slots⟩ := X
  obtain ⟨hx, hb, hr, hml, hown, hts, hlk, hK, hZ, hI, hf1, hf2, hc1, hc2⟩ := O
  intro H locs ls hP hS hl
  exact va_calli (va_runSN (As := [a1]) (rest := st) ⟨hx, hb, hml, hown, hts⟩ hC ⟨va_cnB 1 hts (zgoodC hq.2.2.2.1) rfl rfl rfl (hq.1 _ hZ) (hts _ hq.2.2.1) hq.2.2.2.2 (zroom hf hn hf1 hf2), hts _ hq.2.1, trivial⟩ ⟨zblind, fun U hU hW => ⟨rfl, by rw [hU]; exact hP, va_K.moved hW.alike hK, zNest_warm hW hZ⟩⟩ rfl rfl hl.1 rfl (zcat hs) hd ⟨hc1, hc2⟩) hS (fun q _ h => h) (fun q h => h) (fun r u t H1 locs1 ht _ hw hB _ _ hS1 => by
    obtain ⟨z, rfl, hp⟩ := hw
    exact k z u hp H1 locs1 ls (by rw [← ht]; exact hB) hS1 hl)
theorem r_callN1v {K : zK} {X : zX} {cc : ByteArray} {own : String} {ret : Option FieldType} {nL f pc : Nat} {lo : List (Nat × Value)} {st : List Value} {ct : zE} {y : MethodName} {b : ByteArray} {nL2 f2 idx : Nat} {a1 : Value} {post : zE → Prop} (O : zO K X cc own ret nL f) (hC : zCv K y b nL2 f2 [a1] ct post) (hq : zQN own idx y b nL2 none 1) (hf : f2 + 1 ≤ f) (hn : nL2 ≤ 13) (hs : (st.map fun v => v.category).sum ≤ 8) (hd : decode cc pc = .ok (.invokestatic idx, 3)) (k : ∀ u : zE, post u → G K X nL (pc + 3) lo st u) : G K X nL pc lo (a1 ::  st) ct := by
  obtain ⟨l, D, A, ad, N, cI, cC, cS⟩ := K
  obtain ⟨p, e, R, s, m, args, below, meth, c, Q, cells, slots⟩ := X
  obtain ⟨hx, hb, hr, hml, hown, hts, hlk, hK, hZ, hI, hf1, hf2, hc1, hc2⟩ := O
  intro H locs ls hP hS hl
  exact va_callv (va_runSN (As := [a1]) (rest := st) ⟨hx, hb, hml, hown, hts⟩ hC ⟨va_cnB 1 hts (zgoodC hq.2.2.2.1) rfl rfl rfl (hq.1 _ hZ) (hts _ hq.2.2.1) hq.2.2.2.2 (zroom hf hn hf1 hf2), hts _ hq.2.1, trivial⟩ ⟨zblind, fun U hU hW => ⟨rfl, by rw [hU]; exact hP, va_K.moved hW.alike hK, zNest_warm hW hZ⟩⟩ rfl rfl hl.1 rfl (zcat hs) hd ⟨hc1, hc2⟩) hS (fun q _ h => h) (fun q h => h) (fun u t H1 locs1 ht _ hw hB _ _ hS1 => k u hw H1 locs1 ls (by rw [← ht]; exact hB) hS1 hl)
theorem r_callN2i {K : zK} {X : zX} {cc : ByteArray} {own : String} {ret : Option FieldType} {nL f pc : Nat} {lo : List (Nat × Value)} {st : List Value} {ct : zE} {y : MethodName} {b : ByteArray} {nL2 f2 idx : Nat} {rt : Option FieldType} {a1 a2 : Value} {post : Int → zE → Prop} (O : zO K X cc own ret nL f) (hC : zCi K y b nL2 rt f2 [a1, a2] ct post) (hq : zQN own idx y b nL2 rt 2) (hf : f2 + 1 ≤ f) (hn : nL2 ≤ 13) (hs : (st.map fun v => v.category).sum ≤ 8) (hd : decode cc pc = .ok (.invokestatic idx, 3)) (k : ∀ (z : Int) (u : zE), post z u → G K X nL (pc + 3) lo (.int (iI z) :: st) u) : G K X nL pc lo (a2 :: a1 ::  st) ct := by
  obtain ⟨l, D, A, ad, N, cI, cC, cS⟩ := K
  obtain ⟨p, e, R, s, m, args, below, meth, c, Q, cells, slots⟩ := X
  obtain ⟨hx, hb, hr, hml, hown, hts, hlk, hK, hZ, hI, hf1, hf2, hc1, hc2⟩ := O
  intro H locs ls hP hS hl
  exact va_calli (va_runSN (As := [a1, a2]) (rest := st) ⟨hx, hb, hml, hown, hts⟩ hC ⟨va_cnB 2 hts (zgoodC hq.2.2.2.1) rfl rfl rfl (hq.1 _ hZ) (hts _ hq.2.2.1) hq.2.2.2.2 (zroom hf hn hf1 hf2), hts _ hq.2.1, trivial⟩ ⟨zblind, fun U hU hW => ⟨rfl, by rw [hU]; exact hP, va_K.moved hW.alike hK, zNest_warm hW hZ⟩⟩ rfl rfl hl.1 rfl (zcat hs) hd ⟨hc1, hc2⟩) hS (fun q _ h => h) (fun q h => h) (fun r u t H1 locs1 ht _ hw hB _ _ hS1 => by
    obtain ⟨z, rfl, hp⟩ := hw
    exact k z u hp H1 locs1 ls (by rw [← ht]; exact hB) hS1 hl)
theorem r_callN2v {K : zK} {X : zX} {cc : ByteArray} {own : String} {ret : Option FieldType} {nL f pc : Nat} {lo : List (Nat × Value)} {st : List Value} {ct : zE} {y : MethodName} {b : ByteArray} {nL2 f2 idx : Nat} {a1 a2 : Value} {post : zE → Prop} (O : zO K X cc own ret nL f) (hC : zCv K y b nL2 f2 [a1, a2] ct post) (hq : zQN own idx y b nL2 none 2) (hf : f2 + 1 ≤ f) (hn : nL2 ≤ 13) (hs : (st.map fun v => v.category).sum ≤ 8) (hd : decode cc pc = .ok (.invokestatic idx, 3)) (k : ∀ u : zE, post u → G K X nL (pc + 3) lo st u) : G K X nL pc lo (a2 :: a1 ::  st) ct := by
  obtain ⟨l, D, A, ad, N, cI, cC, cS⟩ := K
  obtain ⟨p, e, R, s, m, args, below, meth, c, Q, cells, slots⟩ := X
  obtain ⟨hx, hb, hr, hml, hown, hts, hlk, hK, hZ, hI, hf1, hf2, hc1, hc2⟩ := O
  intro H locs ls hP hS hl
  exact va_callv (va_runSN (As := [a1, a2]) (rest := st) ⟨hx, hb, hml, hown, hts⟩ hC ⟨va_cnB 2 hts (zgoodC hq.2.2.2.1) rfl rfl rfl (hq.1 _ hZ) (hts _ hq.2.2.1) hq.2.2.2.2 (zroom hf hn hf1 hf2), hts _ hq.2.1, trivial⟩ ⟨zblind, fun U hU hW => ⟨rfl, by rw [hU]; exact hP, va_K.moved hW.alike hK, zNest_warm hW hZ⟩⟩ rfl rfl hl.1 rfl (zcat hs) hd ⟨hc1, hc2⟩) hS (fun q _ h => h) (fun q h => h) (fun u t H1 locs1 ht _ hw hB _ _ hS1 => k u hw H1 locs1 ls (by rw [← ht]; exact hB) hS1 hl)
theorem r_callN3i {K : zK} {X : zX} {cc : ByteArray} {own : String} {ret : Option FieldType} {nL f pc : Nat} {lo : List (Nat × Value)} {st : List Value} {ct : zE} {y : MethodName} {b : ByteArray} {nL2 f2 idx : Nat} {rt : Option FieldType} {a1 a2 a3 : Value} {post : Int → zE → Prop} (O : zO K X cc own ret nL f) (hC : zCi K y b nL2 rt f2 [a1, a2, a3] ct post) (hq : zQN own idx y b nL2 rt 3) (hf : f2 + 1 ≤ f) (hn : nL2 ≤ 13) (hs : (st.map fun v => v.category).sum ≤ 8) (hd : decode cc pc = .ok (.invokestatic idx, 3)) (k : ∀ (z : Int) (u : zE), post z u → G K X nL (pc + 3) lo (.int (iI z) :: st) u) : G K X nL pc lo (a3 :: a2 :: a1 ::  st) ct := by
  obtain ⟨l, D, A, ad, N, cI, cC, cS⟩ := K
  obtain ⟨p, e, R, s, m, args, below, meth, c, Q, cells, slots⟩ := X
  obtain ⟨hx, hb, hr, hml, hown, hts, hlk, hK, hZ, hI, hf1, hf2, hc1, hc2⟩ := O
  intro H locs ls hP hS hl
  exact va_calli (va_runSN (As := [a1, a2, a3]) (rest := st) ⟨hx, hb, hml, hown, hts⟩ hC ⟨va_cnB 3 hts (zgoodC hq.2.2.2.1) rfl rfl rfl (hq.1 _ hZ) (hts _ hq.2.2.1) hq.2.2.2.2 (zroom hf hn hf1 hf2), hts _ hq.2.1, trivial⟩ ⟨zblind, fun U hU hW => ⟨rfl, by rw [hU]; exact hP, va_K.moved hW.alike hK, zNest_warm hW hZ⟩⟩ rfl rfl hl.1 rfl (zcat hs) hd ⟨hc1, hc2⟩) hS (fun q _ h => h) (fun q h => h) (fun r u t H1 locs1 ht _ hw hB _ _ hS1 => by
    obtain ⟨z, rfl, hp⟩ := hw
    exact k z u hp H1 locs1 ls (by rw [← ht]; exact hB) hS1 hl)
theorem r_callN3v {K : zK} {X : zX} {cc : ByteArray} {own : String} {ret : Option FieldType} {nL f pc : Nat} {lo : List (Nat × Value)} {st : List Value} {ct : zE} {y : MethodName} {b : ByteArray} {nL2 f2 idx : Nat} {a1 a2 a3 : Value} {post : zE → Prop} (O : zO K X cc own ret nL f) (hC : zCv K y b nL2 f2 [a1, a2, a3] ct post) (hq : zQN own idx y b nL2 none 3) (hf : f2 + 1 ≤ f) (hn : nL2 ≤ 13) (hs : (st.map fun v => v.category).sum ≤ 8) (hd : decode cc pc = .ok (.invokestatic idx, 3)) (k : ∀ u : zE, post u → G K X nL (pc + 3) lo st u) : G K X nL pc lo (a3 :: a2 :: a1 ::  st) ct := by
  obtain ⟨l, D, A, ad, N, cI, cC, cS⟩ := K
  obtain ⟨p, e, R, s, m, args, below, meth, c, Q, cells, slots⟩ := X
  obtain ⟨hx, hb, hr, hml, hown, hts, hlk, hK, hZ, hI, hf1, hf2, hc1, hc2⟩ := O
  intro H locs ls hP hS hl
  exact va_callv (va_runSN (As := [a1, a2, a3]) (rest := st) ⟨hx, hb, hml, hown, hts⟩ hC ⟨va_cnB 3 hts (zgoodC hq.2.2.2.1) rfl rfl rfl (hq.1 _ hZ) (hts _ hq.2.2.1) hq.2.2.2.2 (zroom hf hn hf1 hf2), hts _ hq.2.1, trivial⟩ ⟨zblind, fun U hU hW => ⟨rfl, by rw [hU]; exact hP, va_K.moved hW.alike hK, zNest_warm hW hZ⟩⟩ rfl rfl hl.1 rfl (zcat hs) hd ⟨hc1, hc2⟩) hS (fun q _ h => h) (fun q h => h) (fun u t H1 locs1 ht _ hw hB _ _ hS1 => k u hw H1 locs1 ls (by rw [← ht]; exact hB) hS1 hl)
theorem r_callN4i {K : zK} {X : zX} {cc : ByteArray} {own : String} {ret : Option FieldType} {nL f pc : Nat} {lo : List (Nat × Value)} {st : List Value} {ct : zE} {y : MethodName} {b : ByteArray} {nL2 f2 idx : Nat} {rt : Option FieldType} {a1 a2 a3 a4 : Value} {post : Int → zE → Prop} (O : zO K X cc own ret nL f) (hC : zCi K y b nL2 rt f2 [a1, a2, a3, a4] ct post) (hq : zQN own idx y b nL2 rt 4) (hf : f2 + 1 ≤ f) (hn : nL2 ≤ 13) (hs : (st.map fun v => v.category).sum ≤ 8) (hd : decode cc pc = .ok (.invokestatic idx, 3)) (k : ∀ (z : Int) (u : zE), post z u → G K X nL (pc + 3) lo (.int (iI z) :: st) u) : G K X nL pc lo (a4 :: a3 :: a2 :: a1 ::  st) ct := by
  obtain ⟨l, D, A, ad, N, cI, cC, cS⟩ := K
  obtain ⟨p, e, R, s, m, args, below, meth, c, Q, cells, slots⟩ := X
  obtain ⟨hx, hb, hr, hml, hown, hts, hlk, hK, hZ, hI, hf1, hf2, hc1, hc2⟩ := O
  intro H locs ls hP hS hl
  exact va_calli (va_runSN (As := [a1, a2, a3, a4]) (rest := st) ⟨hx, hb, hml, hown, hts⟩ hC ⟨va_cnB 4 hts (zgoodC hq.2.2.2.1) rfl rfl rfl (hq.1 _ hZ) (hts _ hq.2.2.1) hq.2.2.2.2 (zroom hf hn hf1 hf2), hts _ hq.2.1, trivial⟩ ⟨zblind, fun U hU hW => ⟨rfl, by rw [hU]; exact hP, va_K.moved hW.alike hK, zNest_warm hW hZ⟩⟩ rfl rfl hl.1 rfl (zcat hs) hd ⟨hc1, hc2⟩) hS (fun q _ h => h) (fun q h => h) (fun r u t H1 locs1 ht _ hw hB _ _ hS1 => by
    obtain ⟨z, rfl, hp⟩ := hw
    exact k z u hp H1 locs1 ls (by rw [← ht]; exact hB) hS1 hl)
theorem r_callN4v {K : zK} {X : zX} {cc : ByteArray} {own : String} {ret : Option FieldType} {nL f pc : Nat} {lo : List (Nat × Value)} {st : List Value} {ct : zE} {y : MethodName} {b : ByteArray} {nL2 f2 idx : Nat} {a1 a2 a3 a4 : Value} {post : zE → Prop} (O : zO K X cc own ret nL f) (hC : zCv K y b nL2 f2 [a1, a2, a3, a4] ct post) (hq : zQN own idx y b nL2 none 4) (hf : f2 + 1 ≤ f) (hn : nL2 ≤ 13) (hs : (st.map fun v => v.category).sum ≤ 8) (hd : decode cc pc = .ok (.invokestatic idx, 3)) (k : ∀ u : zE, post u → G K X nL (pc + 3) lo st u) : G K X nL pc lo (a4 :: a3 :: a2 :: a1 ::  st) ct := by
  obtain ⟨l, D, A, ad, N, cI, cC, cS⟩ := K
  obtain ⟨p, e, R, s, m, args, below, meth, c, Q, cells, slots⟩ := X
  obtain ⟨hx, hb, hr, hml, hown, hts, hlk, hK, hZ, hI, hf1, hf2, hc1, hc2⟩ := O
  intro H locs ls hP hS hl
  exact va_callv (va_runSN (As := [a1, a2, a3, a4]) (rest := st) ⟨hx, hb, hml, hown, hts⟩ hC ⟨va_cnB 4 hts (zgoodC hq.2.2.2.1) rfl rfl rfl (hq.1 _ hZ) (hts _ hq.2.2.1) hq.2.2.2.2 (zroom hf hn hf1 hf2), hts _ hq.2.1, trivial⟩ ⟨zblind, fun U hU hW => ⟨rfl, by rw [hU]; exact hP, va_K.moved hW.alike hK, zNest_warm hW hZ⟩⟩ rfl rfl hl.1 rfl (zcat hs) hd ⟨hc1, hc2⟩) hS (fun q _ h => h) (fun q h => h) (fun u t H1 locs1 ht _ hw hB _ _ hS1 => k u hw H1 locs1 ls (by rw [← ht]; exact hB) hS1 hl)
