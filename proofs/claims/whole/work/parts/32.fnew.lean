/-! THE REFERENCE'S CONSTRUCTOR -/
/-- one cell of the world, and the cells from sz on -/
def zptN (K : zK) (off sz : Nat) : zK := (kl K, kD K, (fun q => q = kad K off ∨ sz ≤ q), (fun i => kad K (off + i)), 1, kI K, kC K, kS K)
def zend (off : Nat) (u ct : zE) : zE := fun k => if k < off then ct k else u (k - off)
theorem zptN_inj (K : zK) (off sz : Nat) : zInj (zptN K off sz) := by
  refine ⟨fun i j hi hj _ => ?_, fun i hi => ?_⟩
  · have hi : i < 1 := hi
    have hj : j < 1 := hj
    omega
  · have hi : i < 1 := hi
    have e : i = 0 := by omega
    subst e
    exact Or.inl rfl
theorem zend_kad {K : zK} {off sz : Nat} {L : List Nat} (h : off + 1 = kN K) {k : Nat} (hk : off ≤ k) : kad (zx K L) k = kad (zx (zptN K off sz) L) (k - off) := by
  by_cases h0 : k = off
  · subst h0
    rw [zx_old (by omega), Nat.sub_self, zx_old (Nat.lt_succ_self 0)]
    rfl
  · rw [zx_new (by omega), zx_new (by show 1 ≤ k - off; omega)]
    congr 1
    show k - kN K = k - off - 1
    omega
theorem zend_P {K : zK} {off sz : Nat} (h : off + 1 = kN K) {L : List Nat} {u ct : zE} {H H1 : Heap} (hI : zInj K) (hP : va_P (kD K) vwCl (zwl K ct) H) (hB : va_P (kD K) vwCl (zwl (zx (zptN K off sz) L) u) H1) (hsz : H.size = sz) (hk : ∀ q, q < H.size → ¬ kA (zptN K off sz) q → H1[q]? = H[q]?) : va_P (kD K) vwCl (zwl (zx K L) (zend off u ct)) H1 := by
  intro k q hk9
  have hl : k < kN (zx K L) := by
    have := (List.getElem?_eq_some_iff.mp hk9).1
    simpa [zwl] using this
  rw [zwl_at hl] at hk9
  cases hk9
  rw [kN_zx] at hl
  by_cases hm : k < off
  · have h1 := hP k _ (zwl_at (K := K) (by omega))
    rw [zx_old (by omega)]
    unfold zend
    rw [if_pos hm]
    refine h1.kept (hk _ h1.lt ?_)
    intro h9
    rcases h9 with h9 | h9
    · have := hI.1 k off (by omega) (by omega) h9
      omega
    · have h2 : kad K k < H.size := h1.lt
      omega
  · have h1 := hB (k - off) _ (zwl_at (K := zx (zptN K off sz) L) (by rw [kN_zx]; show k - off < 1 + L.length; omega))
    rw [← zend_kad h (by omega)] at h1
    unfold zend
    rw [if_neg hm]
    exact h1
theorem zend_inj {K : zK} {off sz : Nat} (h : off + 1 = kN K) {L : List Nat} {ct : zE} {H : Heap} (hI : zInj K) (hP : va_P (kD K) vwCl (zwl K ct) H) (hsz : H.size = sz) (hA : ∀ q, sz ≤ q → kA K q) (hJ : zInj (zx (zptN K off sz) L)) : zInj (zx K L) := by
  have hlt : ∀ k, k < off → kad (zx K L) k < sz := by
    intro k hk
    rw [zx_old (by omega), ← hsz]
    exact (hP k _ (zwl_at (K := K) (by omega))).lt
  have hk2 : ∀ k, off < k → k < kN (zx K L) → sz ≤ kad (zx K L) k ∧ kad (zx K L) k ≠ kad (zx K L) off := by
    intro k hk hl
    rw [kN_zx] at hl
    rw [zend_kad (sz := sz) h (by omega), zend_kad (sz := sz) (k := off) h (Nat.le_refl _), Nat.sub_self]
    have h1 : k - off < kN (zx (zptN K off sz) L) := by rw [kN_zx]; show k - off < 1 + L.length; omega
    have h2 : 0 < kN (zx (zptN K off sz) L) := Nat.lt_of_le_of_lt (Nat.zero_le _) h1
    have h3 : kad (zx (zptN K off sz) L) (k - off) ≠ kad (zx (zptN K off sz) L) 0 := fun e => by
      have := hJ.1 _ _ h1 h2 e
      omega
    refine ⟨?_, h3⟩
    rcases hJ.2 _ h1 with h4 | h4
    · exact absurd h4 (by
        rw [zx_old (K := zptN K off sz) (L := L) (i := 0) (Nat.lt_succ_self 0)] at h3
        exact h3)
    · exact h4
  have hoff : kad (zx K L) off < sz := by
    rw [zx_old (by omega), ← hsz]
    exact (hP off _ (zwl_at (K := K) (by omega))).lt
  refine ⟨fun i j hi hj e => ?_, fun i hi => ?_⟩
  · rcases Nat.lt_trichotomy i off with h1 | h1 | h1
    · rcases Nat.lt_trichotomy j off with h2 | h2 | h2
      · rw [zx_old (by omega), zx_old (by omega)] at e
        exact hI.1 i j (by omega) (by omega) e
      · subst h2
        rw [zx_old (by omega), zx_old (by omega)] at e
        exact hI.1 i j (by omega) (by omega) e
      · have h3 := hk2 j h2 hj
        have h4 := hlt i h1
        omega
    · rcases Nat.lt_trichotomy j off with h2 | h2 | h2
      · subst h1
        rw [zx_old (by omega), zx_old (by omega)] at e
        exact hI.1 i j (by omega) (by omega) e
      · omega
      · have h3 := hk2 j h2 hj
        rw [← h1] at h3
        exact absurd e.symm h3.2
    · rcases Nat.lt_trichotomy j off with h2 | h2 | h2
      · have h3 := hk2 i h1 hi
        have h4 := hlt j h2
        omega
      · have h3 := hk2 i h1 hi
        rw [← h2] at h3
        exact absurd e h3.2
      · rw [zend_kad (sz := sz) h (by omega), zend_kad (sz := sz) (k := j) h (by omega)] at e
        rw [kN_zx] at hi hj
        have h3 := hJ.1 _ _ (by rw [kN_zx]; show i - off < 1 + L.length; omega) (by rw [kN_zx]; show j - off < 1 + L.length; omega) e
        omega
  · by_cases h1 : i < kN K
    · rw [zx_old h1]
      exact hI.2 i h1
    · exact hA _ (hk2 i (by omega) hi).1
theorem r_fN0 {K : zK} {X : zX} {cc : ByteArray} {own : String} {ret : Option FieldType} {nL f pc : Nat} {lo : List (Nat × Value)} {st : List Value} {ct : zE} {y : MethodName} {b : ByteArray} {nL2 f2 mc ms idx : Nat} {post : Nat → List Nat → zE → Prop} (off : Nat) (hoN : off + 1 = kN K) (O : zO K X cc own ret nL f) (hA : ∀ q, (xs X).heap.size ≤ q → kA K q) (hC : ∀ sz : Nat, zN (zptN K off sz) y b nL2 f2 mc ms (.ref (kad K off) :: []) (fun i => ct (off + i)) (fun _ => True) (post sz)) (hlk2 : Cond.methodLink own idx y ∈ zTB) (hi : Cond.instanceMethod y ∈ zTB) (hin : Cond.initialized y.cls ∈ zTB) (hcode : Cond.code y b nL2 none ∈ zTB) (hds : zDs y 0) (hyn : y.name = "<init>") (hf : f2 + 1 ≤ f) (hn : nL2 ≤ 13) (hs : (st.map fun v => v.category).sum ≤ 8) (hc : xc X + mc ≤ (xR X).cells) (hm : xn X + ms ≤ (xR X).slots) (hd : decode cc pc = .ok (.invokespecial idx, 3)) (k : ∀ (sz : Nat) (L : List Nat) (u : zE), post sz L u → zO (zx K L) (zXg X mc ms) cc own ret nL f → G (zx K L) (zXg X mc ms) nL (pc + 3) lo st (zend off u ct)) : G K X nL pc lo (.ref (kad K off) :: st) ct := by
  have O1 := O
  have hC1 := hC
  obtain ⟨l, D, A, ad, N, cI, cC, cS⟩ := K
  obtain ⟨p, e, R, s, m, args, below, meth, c, Q, cells, slots⟩ := X
  obtain ⟨hx, hb, hr, hml, hown, hts, hlk, hK, hZ, hI, hf1, hf2, hc1, hc2⟩ := O
  intro H locs ls hP hS hl
  have hM : Met l y (.code y b nL2 none :: zTB) (zRm f2 mc ms) (zPn (zptN (l, D, A, ad, N, cI, cC, cS) off H.size) (.ref (ad off) :: []) (fun i => ct (off + i)) (fun _ => True)) (zQn (zptN (l, D, A, ad, N, cI, cC, cS) off H.size) (post H.size)) mc ms (kA (zptN (l, D, A, ad, N, cI, cC, cS) off H.size)) := hC1 H.size
  have hoN' : off + 1 = N := hoN
  have hAA : ∀ q, H.size ≤ q → A q := fun q h => hA q (Nat.le_trans hS.1 h)
  refine va_callv (va_runI (As := []) (rest := st) ⟨hx, hb, hml, hown, hts⟩ hM ⟨callB_of 0 hts (zgoodC hcode) rfl rfl rfl (hts _ hin) (hts _ hlk2) hds (zroomN hf hn hf1 hf2), hyn, hts _ hi⟩ ⟨zblindN (fun _ _ _ _ h => h), fun U hU hW => ⟨rfl, ⟨by
    rw [hU]
    exact zx_P (K := (l, D, A, ad, N, cI, cC, cS)) (K2 := zptN (l, D, A, ad, N, cI, cC, cS) off H.size) rfl (fun i hi => ⟨off + i, by have hi : i < 1 := hi; show off + i < N; omega, rfl, Or.inl rfl⟩) hP, va_K.moved hW.alike hK, zNest_warm hW hZ⟩, by rw [hU]; exact fun q h => Or.inr h, trivial⟩⟩ rfl rfl hl.1 rfl (zcat hs) hd ⟨hc, hm⟩) hS (fun q hq h => ?_) (fun q h => ?_) ?_
  · rcases h with h | h
    · rw [h]
      exact hI.2 off (by show off < N; omega)
    · exact absurd hq (Nat.not_lt.mpr h)
  · rcases h with h | h
    · rw [h]
      exact hI.2 off (by show off < N; omega)
    · exact hAA q h
  · intro u t H1 locs1 ht _ hw hB _ hk hS1
    have hIn := zend_inj (K := (l, D, A, ad, N, cI, cC, cS)) hoN' hI hP rfl hAA hw.2
    exact k H.size u.1 u.2 hw.1 (zO_grow O1 rfl rfl hIn hc hm) H1 locs1 ls (zend_P (K := (l, D, A, ad, N, cI, cC, cS)) hoN' hI hP (by rw [← ht]; exact hB) rfl hk) hS1 hl
theorem zXg_0 (X : zX) : X = zXg X 0 0 := rfl
theorem zup_at (ct : zE) {k i : Nat} (e : va_E) (h : i = k) : zup ct k e i = e := by rw [h]; exact zup_s _ _ _
theorem mR_fi {td ss : Int → Int} (h : mR td ss (5, 40, 6, 2, qro (fiM jsZ), qfa (fiM jsZ), qkd (fiM jsZ), qsp (fiM jsZ), qhu (fiM jsZ), qbe (fiM jsZ), qea (fiM jsZ))) : mR td ss (fiV jsZ) := h
theorem mR_cp {td ss t2 s2 : Int → Int} {v : SV} (h : mR td ss v) (h0 : 0 ≤ qn v) (h7 : qn v ≤ 7) (e1 : ∀ y : Int, 0 ≤ y → y < 10 → t2 y = td y) (e2 : ∀ y : Int, 0 ≤ y → y < 31 → s2 y = ss y) : mR t2 s2 v := by
  obtain ⟨g1, g2, g3, g4, g5, g6, g7⟩ := h
  refine ⟨by rw [e1 0 (by omega) (by omega), g1], by rw [e2 28 (by omega) (by omega), g2], by rw [e2 29 (by omega) (by omega), g3], by rw [e2 30 (by omega) (by omega), g4], by rw [e1 1 (by omega) (by omega), g5], by rw [e1 2 (by omega) (by omega), g6], fun i i0 i1 => ?_⟩
  have := g7 i i0 i1
  rw [e2 i (by omega) (by omega), e2 (7 + i) (by omega) (by omega), e2 (14 + i) (by omega) (by omega), e1 (3 + i) (by omega) (by omega), e2 (21 + i) (by omega) (by omega)]
  exact this
/-! THE REFERENCE'S ROWS ARE MADE, ONE BY ONE -/
def jmO (K : zK) (fo : List (Option (Option Nat))) : List Value := fo.map (fun x => match x with | none => .null | some none => .int (iI 0) | some (some b) => .ref (kad K b))
theorem jmO_c {K K2 : zK} {fo : List (Option (Option Nat))} (h : ∀ b : Nat, some (some b) ∈ fo → kad K b = kad K2 b) : jmO K fo = jmO K2 fo := by
  unfold jmO
  refine List.map_congr_left (fun x hx => ?_)
  cases x with
  | none => rfl
  | some y =>
    cases y with
    | none => rfl
    | some b => simp only [h b hx]
theorem jmO_set (K : zK) (fo : List (Option (Option Nat))) (i b : Nat) : (jmO K fo).set i (.ref (kad K b)) = jmO K (fo.set i (some (some b))) := by
  unfold jmO
  rw [List.map_set]
theorem jmO_len (K : zK) (fo : List (Option (Option Nat))) : (jmO K fo).length = fo.length := by
  unfold jmO
  rw [List.length_map]
def jmW (K : zK) (u : zE) (n : Nat) (fo : List (Option (Option Nat))) (ls : List Nat) : Prop := kN K = n ∧ u 0 = .inr (6, jmO K fo) ∧ (∀ b : Nat, some (some b) ∈ fo → b < n) ∧ ls.length + 1 = n ∧ ∀ j : Nat, j < ls.length → u (j + 1) = z0 (kI K) (ls.getD j 0)
theorem jm_arr {K0 K : zK} {X0 : zX} {a b f pc n fi ip sz : Nat} {lo : List (Nat × Value)} {ct : zE} {o0 : Nat} {fo : List (Option (Option Nat))} {ls : List Nat} (dl : Nat) (hK : K = K0 ∨ ∃ M, K = zx K0 M) (O : zO K (zXg X0 a b) cX6_init yX6_init.cls none 1 f) (hnm : (xme X0).name = "<init>") (hA : ∀ q, (xs X0).heap.size ≤ q → kA K0 q) (hk : kad K 0 = o0) (hW : jmW K ct n fo ls)
    (d1 : decode cX6_init pc = .ok (.aload_n 0, 1)) (hlo : zget lo 0 = some (.ref o0)) (dp : ∀ (K2 : zK) (X2 : zX) (st : List Value) (c2 : zE), zO K2 X2 cX6_init yX6_init.cls none 1 f → G K2 X2 1 (pc + 1 + dl) lo (.int (iI (sz : Int)) :: st) c2 → G K2 X2 1 (pc + 1) lo st c2) (d3 : decode cX6_init (pc + 1 + dl) = .ok (.newarray .int, 2)) (d4 : decode cX6_init (pc + 1 + dl + 2) = .ok (.putfield ip, 3))
    (hs : sz < 1000) (hc : xc X0 + a + 1 ≤ (xR X0).cells) (hn : xn X0 + b + sz ≤ (xR X0).slots)
    (hwf : Cond.fieldLink yX6_init.cls ip yX6_init.cls (TX6 fi).2.1 (TX6 fi).2.2.1 ∈ zTB) (hfi : fi < 16) (hfin : (TX6 fi).2.2.2 = true) (hpty : parseFieldDescriptor (TX6 fi).2.2.1 = some (.array .int)) (hl : fo.length = 16)
    (k : ∀ (K2 : zK) (u : zE), (∃ M, K2 = zx K0 M) → kad K2 0 = o0 → jmW K2 u (n + 1) (fo.set fi (some (some n))) (ls ++ [sz]) → zO K2 (zXg X0 (a + 1) (b + sz)) cX6_init yX6_init.cls none 1 f → G K2 (zXg X0 (a + 1) (b + sz)) 1 (pc + 1 + dl + 2 + 3) lo [] u) : G K (zXg X0 a b) 1 pc lo [] ct := by
  have eA : kA K = kA K0 := by
    rcases hK with rfl | ⟨M, rfl⟩ <;> rfl
  have eM : ∀ q : Nat, ∃ M, zx K [q] = zx K0 M := by
    intro q
    rcases hK with rfl | ⟨M, rfl⟩
    · exact ⟨[q], rfl⟩
    · exact ⟨M ++ [q], zx_app K0 M [q]⟩
  obtain ⟨k1, k2, k3, k4, k5⟩ := hW
  have h0 : 0 < kN K := by omega
  rw [← eA] at hA
  refine n_aload_n O d1 hlo ?_
  refine dp _ _ _ _ O ?_
  refine r_newA (K := K) (X := zXg X0 a b) (at9 := .int) (cid := kI K) (t0 := 0) rfl (by intro C h; cases h) (fun _ _ => rfl) sz O hA zar_int (by omega) (by show sz * 4 ≤ 536870912; omega) hc hn d3 (fun q O1 => ?_)
  have hk2 : kad (zx (K) [q]) 0 = o0 := (zx_old h0).trans hk
  refine r_putF (a := 0) (ty := .array .int) O1 hnm (Nat.lt_of_lt_of_le h0 (Nat.le_add_right _ _)) hk2 ((zup_n _ _ (Nat.ne_of_lt h0)).trans k2) zCl6 hwf hfi hfin hpty rfl rfl (by rw [jmO_len, hl]; exact hfi) d4 ?_
  have eX : zXg (zXg X0 a b) 1 sz = zXg X0 (a + 1) (b + sz) := zXg_app X0 a b 1 sz
  have hq : kad (zx (K) [q]) n = q := by
    rw [zx_new (by omega), k1, Nat.sub_self]
    rfl
  have old : ∀ i : Nat, i < n → kad (K) i = kad (zx (K) [q]) i := fun i hi => (zx_old (by omega)).symm
  rw [eX] at O1
  refine G_cast rfl eX (k (zx (K) [q]) _ (eM q) hk2 ⟨?_, ?_, ?_, ?_, ?_⟩ O1)
  · rw [kN_zx, k1]
    rfl
  · rw [zup_s, jmO_c (fun b hb => old b (k3 b hb)), ← jmO_set, hq]
  · intro b hb
    rcases List.mem_or_eq_of_mem_set hb with hb | hb
    · exact Nat.lt_succ_of_lt (k3 b hb)
    · rw [Option.some.inj (Option.some.inj hb)]
      omega
  · rw [List.length_append]
    show ls.length + 1 + 1 = n + 1
    omega
  · intro j hj
    rw [List.length_append] at hj
    have hj : j < ls.length + 1 := hj
    rw [zup_n _ _ (by omega)]
    by_cases h : j < ls.length
    · rw [zup_n _ _ (by omega), k5 j h, List.getD_eq_getElem?_getD, List.getD_eq_getElem?_getD, List.getElem?_append_left h]
      rfl
    · have e : j = ls.length := by omega
      rw [e, show ls.length + 1 = kN (K) by omega, zup_s, List.getD_eq_getElem?_getD, List.getElem?_append_right (Nat.le_refl _), Nat.sub_self]
      rfl

