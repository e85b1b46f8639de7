/-! GROWING WORLDS: K with more cells behind its own -/
def zx (K : zK) (L : List Nat) : zK := (kl K, kD K, kA K, fun i => if i < kN K then kad K i else L.getD (i - kN K) 0, kN K + L.length, kI K, kC K, kS K)
def zXg (X : zX) (c n : Nat) : zX := (X.1, X.2.1, X.2.2.1, X.2.2.2.1, X.2.2.2.2.1, X.2.2.2.2.2.1, X.2.2.2.2.2.2.1, X.2.2.2.2.2.2.2.1, X.2.2.2.2.2.2.2.2.1, X.2.2.2.2.2.2.2.2.2.1, X.2.2.2.2.2.2.2.2.2.2.1 + c, X.2.2.2.2.2.2.2.2.2.2.2 + n)
def xs (X : zX) : State := X.2.2.2.1
def xR (X : zX) : Room := X.2.2.1
def xc (X : zX) : Nat := X.2.2.2.2.2.2.2.2.2.2.1
def xn (X : zX) : Nat := X.2.2.2.2.2.2.2.2.2.2.2
def xme (X : zX) : Method := X.2.2.2.2.2.2.2.1
theorem zx_old {K : zK} {L : List Nat} {i : Nat} (h : i < kN K) : kad (zx K L) i = kad K i := if_pos h
theorem zx_new {K : zK} {L : List Nat} {i : Nat} (h : kN K ≤ i) : kad (zx K L) i = L.getD (i - kN K) 0 := if_neg (Nat.not_lt.mpr h)
theorem zx_app (K : zK) (L M : List Nat) : zx (zx K L) M = zx K (L ++ M) := by
  have e1 : (fun i => if i < kN (zx K L) then kad (zx K L) i else M.getD (i - kN (zx K L)) 0) = fun i => if i < kN K then kad K i else (L ++ M).getD (i - kN K) 0 := by
    funext i
    have hN : kN (zx K L) = kN K + L.length := rfl
    rw [hN]
    by_cases h1 : i < kN K
    · rw [if_pos (by omega), if_pos h1, zx_old h1]
    · rw [if_neg h1]
      by_cases h2 : i < kN K + L.length
      · rw [if_pos h2, zx_new (by omega), List.getD_eq_getElem?_getD, List.getD_eq_getElem?_getD, List.getElem?_append_left (by omega)]
      · rw [if_neg h2, List.getD_eq_getElem?_getD, List.getD_eq_getElem?_getD, List.getElem?_append_right (by omega)]
        congr 2
        omega
  have e2 : kN (zx K L) + M.length = kN K + (L ++ M).length := by
    show kN K + L.length + M.length = _
    rw [List.length_append, Nat.add_assoc]
  show (kl K, kD K, kA K, _, _, kI K, kC K, kS K) = (kl K, kD K, kA K, _, _, kI K, kC K, kS K)
  rw [e1, e2]
theorem zXg_app (X : zX) (a b c d : Nat) : zXg (zXg X a b) c d = zXg X (a + c) (b + d) := by
  unfold zXg
  simp only [Nat.add_assoc]
theorem zwl_nil (K : zK) (ct : zE) : zwl (zx K []) ct = zwl K ct := by
  unfold zwl
  show (List.range (kN K)).map _ = _
  exact List.map_congr_left (fun i hi => by rw [zx_old (List.mem_range.mp hi)])
theorem zwl_grow (K : zK) (q : Nat) (ct : zE) (e : va_E) : zwl (zx K [q]) (zup ct (kN K) e) = zwl K ct ++ [(q, e)] := by
  unfold zwl
  show (List.range (kN K + 1)).map _ = _
  rw [List.range_succ, List.map_append]
  congr 1
  · exact List.map_congr_left (fun i hi => by
      have h := List.mem_range.mp hi
      rw [zx_old h]
      unfold zup
      rw [if_neg (by omega)])
  · show [(kad (zx K [q]) (kN K), zup ct (kN K) e (kN K))] = _
    rw [zx_new (Nat.le_refl _), Nat.sub_self]
    unfold zup
    rw [if_pos rfl]
    rfl
theorem zInj_D {K : zK} {ct : zE} (h : va_D (kA K) (zwl K ct)) : zInj K := by
  refine ⟨fun i j hi hj e => h.1 i j _ _ (zwl_at hi) (zwl_at hj) e, fun i hi => h.2 i _ (zwl_at hi)⟩
theorem zO_grow {K K2 : zK} {X : zX} {cc : ByteArray} {own : String} {ret : Option FieldType} {nL f c n : Nat} (O : zO K X cc own ret nL f) (e1 : kD K2 = kD K) (e2 : zty K2 = zty K) (hI : zInj K2) (hc : xc X + c ≤ (xR X).cells) (hn : xn X + n ≤ (xR X).slots) : zO K2 (zXg X c n) cc own ret nL f := by
  obtain ⟨hx, hb, hr, hml, hown, hts, hlk, hK, hZ, hI0, hf1, hf2, hc1, hc2⟩ := O
  refine ⟨hx, hb, hr, hml, hown, hts, hlk, ?_, hZ, hI, hf1, hf2, hc, hn⟩
  rw [e1, e2]
  exact hK
theorem r_objI {K : zK} {X : zX} {cc : ByteArray} {own : String} {ret : Option FieldType} {nL f pc : Nat} {lo : List (Nat × Value)} {st : List Value} {ct : zE} {a idx : Nat} (O : zO K X cc own ret nL f) (hl : Cond.methodLink own idx Lib.objectInit ∈ zTB) (hi : Cond.instanceMethod Lib.objectInit ∈ zTB) (hc : Cond.code Lib.objectInit ⟨#[0xb1]⟩ 1 none ∈ zTB) (hf : 1 ≤ f) (hs : (st.map fun v => v.category).sum ≤ 8) (hd : decode cc pc = .ok (.invokespecial idx, 3)) (k : G K X nL (pc + 3) lo st ct) : G K X nL pc lo (.ref a :: st) ct := by
  obtain ⟨l, D, A, ad, N, cI, cC, cS⟩ := K
  obtain ⟨p, e, R, s, m, args, below, meth, c, Q, cells, slots⟩ := X
  obtain ⟨hx, hb, hr, hml, hown, hts, hlk, hK, hZ, hI, hf1, hf2, hc1, hc2⟩ := O
  intro H locs ls hP hS hl2
  refine W.objInit hx hb hown (hts _ hl) (hts _ hi) (hts _ hc) rfl (hl2.1.trans hml.symm) rfl hd (Nat.le_trans hf hf1) ?_ (k H locs ls hP hS hl2)
  have e : 2 * (F0 m pc ls (Value.ref a :: st)).monitorRoom + (st.map fun v => v.category).sum ≤ 8 := zcat hs
  have h32 : 32 * 1 ≤ 32 * f := Nat.mul_le_mul_left 32 hf
  exact Nat.le_trans (Nat.le_trans (Nat.add_le_add_right e 12) (by omega)) (Nat.le_trans h32 hf2)
theorem r_new {K : zK} {X : zX} {cc : ByteArray} {own : String} {ret : Option FieldType} {nL f pc : Nat} {lo : List (Nat × Value)} {st : List Value} {ct : zE} {ci n index : Nat} {C : String} {T : u_T} {fs : List Value} {ty : Nat → FieldType} (O : zO K X cc own ret nL f) (hA : ∀ q, (xs X).heap.size ≤ q → kA K q) (hC : zCl ci C T n) (hw : Cond.classLink own index C ∈ zTB) (hi : Cond.instantiable C n ∈ zTB) (hin : Cond.initialized C ∈ zTB) (hty : ∀ k, k < n → parseFieldDescriptor (T k).2.2.1 = some (ty k)) (hfs : ∀ j, j < n → defaultValue (ty j) = vp_V fs j) (hc : xc X + 1 ≤ (xR X).cells) (hn : xn X + n ≤ (xR X).slots) (hd : decode cc pc = .ok (.new index, 3)) (k : ∀ q, zO (zx K [q]) (zXg X 1 n) cc own ret nL f → G (zx K [q]) (zXg X 1 n) nL (pc + 3) lo (.ref q :: st) (zup ct (kN K) (.inr (ci, fs)))) : G K X nL pc lo st ct := by
  have O1 := O
  have hgr := fun q => zwl_grow K q ct (.inr (ci, fs))
  obtain ⟨l, D, A, ad, N, cI, cC, cS⟩ := K
  obtain ⟨p, e, R, s, m, args, below, meth, c, Q, cells, slots⟩ := X
  obtain ⟨hx, hb, hr, hml, hown, hts, hlk, hK, hZ, hI, hf1, hf2, hc1, hc2⟩ := O
  intro H locs ls hP hS hl
  refine va_new (tys := _) hx hb hts hC.2.1 ty hty hown (hts _ hw) (hts _ hi) (hts _ hin) hK hP (zwl_D hI ct) hS hA hC.1 hfs hc hn hd (fun q H1 hP1 hD1 hS1 => ?_)
  rw [← hgr q] at hP1 hD1
  have hI1 := zInj_D (K := zx (l, D, A, ad, N, cI, cC, cS) [q]) hD1
  exact k q (zO_grow O1 rfl rfl hI1 hc hn) H1 locs ls hP1 hS1 hl
/-- a cell that holds the same -/
def zSame (e e2 : va_E) : Prop := e = e2 ∨ ∃ (c : ClassId) (n : Nat) (f g : Nat → Option Nat), e = .inl (c, n, .inr (.inr (.inr (.inr f)))) ∧ e2 = .inl (c, n, .inr (.inr (.inr (.inr g)))) ∧ ∀ q, q < n → f q = g q
theorem zSame_at {D : va_G} {cl : List vw_C} {a : Nat} {e e2 : va_E} {H : Heap} (h : zSame e e2) (hp : va_at D cl (a, e) H) : va_at D cl (a, e2) H := by
  rcases h with h | ⟨c, n, f, g, h1, h2, h3⟩
  · rw [← h]; exact hp
  · subst h1; subst h2
    have e9 : vp_cell c (n, .inr (.inr (.inr (.inr f)))) = vp_cell c (n, .inr (.inr (.inr (.inr g)))) := by
      rw [vp_cell_q, vp_cell_q]
      unfold arrV
      congr 2
      funext j
      show va_rf (f j.val) = va_rf (g j.val)
      rw [h3 j.val j.isLt]
    show H[a]? = some (vp_cell c (n, .inr (.inr (.inr (.inr g)))))
    rw [← e9]
    exact hp
theorem zx_P {K K2 : zK} {ct ct2 : zE} {H : Heap} (eD : kD K2 = kD K) (h : ∀ i, i < kN K2 → ∃ j, j < kN K ∧ kad K2 i = kad K j ∧ zSame (ct j) (ct2 i)) (hP : va_P (kD K) vwCl (zwl K ct) H) : va_P (kD K2) vwCl (zwl K2 ct2) H := by
  intro k q hk
  have hl : k < kN K2 := by
    have := (List.getElem?_eq_some_iff.mp hk).1
    simpa [zwl] using this
  rw [zwl_at hl] at hk
  obtain ⟨j, h1, h2, h3⟩ := h k hl
  have h4 := hP j _ (zwl_at h1)
  cases hk
  rw [eD, h2]
  exact zSame_at h3 h4
theorem zx_G {K K2 : zK} {X : zX} {nL pc : Nat} {lo : List (Nat × Value)} {st : List Value} {ct ct2 : zE} (el : kl K2 = kl K) (eD : kD K2 = kD K) (eA : kA K2 = kA K) (h : ∀ i, i < kN K2 → ∃ j, j < kN K ∧ kad K2 i = kad K j ∧ zSame (ct j) (ct2 i)) (k : G K2 X nL pc lo st ct2) : G K X nL pc lo st ct := by
  intro H locs ls hP hS hl
  have k1 := k H locs ls (zx_P eD h hP) (by rw [eA]; exact hS) hl
  rw [el] at k1
  exact k1
theorem r_newA {K : zK} {X : zX} {cc : ByteArray} {own : String} {ret : Option FieldType} {nL f pc : Nat} {lo : List (Nat × Value)} {st : List Value} {ct : zE} {at9 : ArrayType} {cid : ClassId} {t0 : Nat} (ht0 : (zty K)[t0]? = some (cid, newarray.typeOf at9)) (hne : ∀ C, newarray.typeOf at9 ≠ .object C) (hdf : ∀ c n, vp_cell c (n, .inl (aI (fun _ => 0))) = arrV c n (fun _ => defaultValue (newarray.typeOf at9))) (n : Nat) (O : zO K X cc own ret nL f) (hA : ∀ q, (xs X).heap.size ≤ q → kA K q) (hw : Cond.arrayClass (newarray.typeOf at9) ∈ zTB) (hn0 : n < 2147483648) (hby : n * componentBytes (newarray.typeOf at9) ≤ 536870912) (hc : xc X + 1 ≤ (xR X).cells) (hn : xn X + n ≤ (xR X).slots) (hd : decode cc pc = .ok (.newarray at9, 2)) (k : ∀ q, zO (zx K [q]) (zXg X 1 n) cc own ret nL f → G (zx K [q]) (zXg X 1 n) nL (pc + 2) lo (.ref q :: st) (zup ct (kN K) (.inl (cid, n, .inl (aI (fun _ => 0)))))) : G K X nL pc lo (.int (iI (n : Int)) :: st) ct := by
  have O1 := O
  have hgr := fun q => zwl_grow K q ct (.inl (cid, n, .inl (aI (fun _ => 0))))
  obtain ⟨l, D, A, ad, N, cI, cC, cS⟩ := K
  obtain ⟨p, e, R, s, m, args, below, meth, c, Q, cells, slots⟩ := X
  obtain ⟨hx, hb, hr, hml, hown, hts, hlk, hK, hZ, hI, hf1, hf2, hc1, hc2⟩ := O
  intro H locs ls hP hS hl
  have hcl : (iI (n : Int)).toNatClampNeg = n := by rw [iI_cl (by omega) (by omega)]; rfl
  have hneg : ¬ iI (n : Int) < 0 := by
    intro q
    have := (iI_lt (a := (n : Int)) (b := 0) ⟨by omega, by omega⟩ ⟨by decide, by decide⟩).mp q
    omega
  refine va_newaK hx hb (hts _ hw) rfl hd rfl hneg hcl hby hc hn rfl (fun H1 cA e1 z1 o1 hAr hNm => ?_)
  have hra := (hK.2 t0 _ ht0).2
  have hcA : cA = cid := by
    have h2 : s.vm.findClass ("[" ++ (newarray.typeOf at9).toString) = some cid := by
      revert hra hne
      generalize newarray.typeOf at9 = T9
      intro hne hra
      cases T9 <;> first | exact absurd rfl (hne _) | exact hra
    exact Option.some.inj (hNm.symm.trans h2)
  subst hcA
  have hk9 : ∀ (k : Nat) (x : Nat × va_E), (zwl (l, D, A, ad, N, cI, cC, cS) ct)[k]? = some x → H1[x.1]? = H[x.1]? := fun k x hx => o1 x.1 ((hP k x hx).lt)
  have hP1 : va_P D vwCl (zwl (l, D, A, ad, N, cI, cC, cS) ct ++ [(H.size, .inl (cA, n, .inl (aI (fun _ => 0))))]) H1 := (hP.kept hk9).app (fun k x hx => by
    have hz : k < 1 := (List.getElem?_eq_some_iff.mp hx).1
    rw [show k = 0 by omega] at hx
    cases hx
    show H1[H.size]? = some (vp_cell _ _)
    rw [hdf]
    exact e1)
  have hD1 := (zwl_D hI ct).push (e := .inl (cA, n, .inl (aI (fun _ => 0)))) hP rfl (hA _ hS.1)
  have hS1 : va_S A s.heap H1 locs := ⟨Nat.le_trans hS.1 (by omega), fun x h1 h2 => (o1 x (Nat.lt_of_lt_of_le h1 hS.1)).trans (hS.2.1 x h1 h2), hS.2.2⟩
  rw [← hgr H.size] at hP1
  have hD2 : va_D A (zwl (zx (l, D, A, ad, N, cI, cC, cS) [H.size]) (zup ct N (.inl (cA, n, .inl (aI (fun _ => 0)))))) := (hgr H.size) ▸ hD1
  have hI1 := zInj_D (K := zx (l, D, A, ad, N, cI, cC, cS) [H.size]) hD2
  exact k H.size (zO_grow O1 rfl rfl hI1 hc hn) H1 locs ls hP1 hS1 hl

theorem r_newS {K : zK} {X : zX} {cc : ByteArray} {own : String} {ret : Option FieldType} {nL f pc : Nat} {lo : List (Nat × Value)} {st : List Value} {ct : zE} {index : Nat} (n : Nat) (O : zO K X cc own ret nL f) (hA : ∀ q, (xs X).heap.size ≤ q → kA K q) (hw : Cond.classLink own index RX3 ∈ zTB) (hAO : va_AO RX3 (xs X)) (hn0 : n < 1000) (hc : xc X + 1 ≤ (xR X).cells) (hn : xn X + n ≤ (xR X).slots) (hd : decode cc pc = .ok (.anewarray index, 3)) (k : ∀ q, zO (zx K [q]) (zXg X 1 n) cc own ret nL f → G (zx K [q]) (zXg X 1 n) nL (pc + 3) lo (.ref q :: st) (zup ct (kN K) (.inl (kS K, n, .inr (.inr (.inr (.inr (fun _ => none)))))))) : G K X nL pc lo (.int (iI (n : Int)) :: st) ct := by
  have O1 := O
  have hgr := fun q => zwl_grow K q ct (.inl (kS K, n, .inr (.inr (.inr (.inr (fun _ => none))))))
  obtain ⟨l, D, A, ad, N, cI, cC, cS⟩ := K
  obtain ⟨p, e, R, s, m, args, below, meth, c, Q, cells, slots⟩ := X
  obtain ⟨hx, hb, hr, hml, hown, hts, hlk, hK, hZ, hI, hf1, hf2, hc1, hc2⟩ := O
  intro H locs ls hP hS hl
  have hcl : (iI (n : Int)).toNatClampNeg = n := by rw [iI_cl (by omega) (by omega)]; rfl
  have hneg : ¬ iI (n : Int) < 0 := by
    intro q
    have := (iI_lt (a := (n : Int)) (b := 0) ⟨by omega, by omega⟩ ⟨by decide, by decide⟩).mp q
    omega
  refine va_newq (tys := []) hx hb hown (hts _ hw) hAO (hK.sub [] rfl) hP (zwl_D hI ct) hS hA hneg hcl (by omega) hc hn hd (fun q cA H1 hK1 hP1 hD1 hS1 => ?_)
  obtain ⟨kA9, cp9, -, -, -, hf9⟩ := (hK1.2 0 (cA, .object RX3) rfl).2
  obtain ⟨kA8, cp8, -, -, -, hf8⟩ := (hK.2 2 (cS, .object RX3) rfl).2
  have e : cA = cS := Option.some.inj (hf9.symm.trans hf8)
  subst e
  have h9 : zwl (zx (l, D, A, ad, N, cI, cC, cA) [q]) (zup ct N (.inl (cA, n, .inr (.inr (.inr (.inr (fun _ => none))))))) = zwl (l, D, A, ad, N, cI, cC, cA) ct ++ [(q, .inl (cA, n, .inr (.inr (.inr (.inr (fun _ => none))))))] := hgr q
  rw [← h9] at hP1 hD1
  have hI1 := zInj_D (K := zx (l, D, A, ad, N, cI, cC, cA) [q]) hD1
  exact k q (zO_grow O1 rfl rfl hI1 hc hn) H1 locs ls hP1 hS1 hl
theorem r_putF {K : zK} {X : zX} {cc : ByteArray} {own : String} {ret : Option FieldType} {nL f pc : Nat} {lo : List (Nat × Value)} {st : List Value} {ct : zE} {ci n fi index : Nat} {T : u_T} {fs : List Value} {v : Value} {ty : FieldType} {a0 : Nat} (a : Nat) (O : zO K X cc own ret nL f) (hnm : (xme X).name = "<init>") (ha : a < kN K) (hka : kad K a = a0) (he : ct a = .inr (ci, fs)) (hC : zCl ci own T n) (hw : Cond.fieldLink own index own (T fi).2.1 (T fi).2.2.1 ∈ zTB) (hn : fi < n) (hfin : (T fi).2.2.2 = true) (hty : parseFieldDescriptor (T fi).2.2.1 = some ty) (hnr : narrow ty v = v) (hfit : fits ty v = true) (hl2 : fi < fs.length) (hd : decode cc pc = .ok (.putfield index, 3)) (k : G K X nL (pc + 3) lo st (zup ct a (.inr (ci, fs.set fi v)))) : G K X nL pc lo (v :: .ref a0 :: st) ct := by
  subst hka
  obtain ⟨l, D, A, ad, N, cI, cC, cS⟩ := K
  obtain ⟨p, e, R, s, m, args, below, meth, c, Q, cells, slots⟩ := X
  obtain ⟨hx, hb, hr, hml, hown, hts, hlk, hK, hZ, hI, hf1, hf2, hc1, hc2⟩ := O
  intro H locs ls hP hS hl
  obtain ⟨ty0, hty0⟩ := hC.2.2.1
  refine va_putF (tys := _) hx hb hts hC.2.1 ty0 hty0 hC.2.2.2.1 hown hK hP (zwl_D hI ct) hS a (fs := fs) ((zwl_at ha).trans (by rw [he])) hC.1 fi hn (hts _ hw) (fun _ h9 => by rw [hC.2.2.2.2 fi hn] at h9; exact h9) hfin hnm (hC.2.2.2.2 fi hn) hty hnr hfit hl2 hd (fun H1 locs1 hP1 _ hS1 => ?_)
  refine k H1 locs1 ls ?_ hS1 hl
  have e9 := zwl_set (K := (l, D, A, ad, N, cI, cC, cS)) (ct := ct) (k := a) (.inr (ci, fs.set fi v))
  exact e9 ▸ hP1
theorem r_aastF {K : zK} {X : zX} {cc : ByteArray} {own : String} {ret : Option FieldType} {nL f pc : Nat} {lo : List (Nat × Value)} {st : List Value} {ct : zE} {n : Nat} {g : Nat → Option Nat} {z : Nat} {vs : List Value} {a0 v0 : Nat} (a v : Nat) (O : zO K X cc own ret nL f) (ha : a < kN K) (hka : kad K a = a0) (he : ct a = .inl (kS K, n, .inr (.inr (.inr (.inr g))))) (hv : v < kN K) (hkv : kad K v = v0) (hev : ct v = .inr (3, vs)) (h1 : z < n) (hn : n < 2147483648) (hd : decode cc pc = .ok (.aastore, 1)) (k : G K X nL (pc + 1) lo st (zup ct a (.inl (kS K, n, .inr (.inr (.inr (.inr (va_up g z (some v0)))))))) ) : G K X nL pc lo (.ref v0 :: .int (iI (z : Int)) :: .ref a0 :: st) ct := by
  subst hka
  subst hkv
  obtain ⟨l, D, A, ad, N, cI, cC, cS⟩ := K
  obtain ⟨p, e, R, s, m, args, below, meth, c, Q, cells, slots⟩ := X
  obtain ⟨hx, hb, hr, hml, hown, hts, hlk, hK, hZ, hI, hf1, hf2, hc1, hc2⟩ := O
  intro H locs ls hP hS hl
  have hcl : (iI (z : Int)).toNatClampNeg = z := by rw [iI_cl (by omega) (by omega)]; rfl
  refine va_astq (tys := _) hx hb hK hP (zwl_D hI ct) hS a 2 v 3 (r := (RX3, TX3, 11)) ((zwl_at ha).trans (by rw [he])) rfl ((zwl_at hv).trans (by rw [hev])) rfl (iI_in (by omega) (by omega) hn) hd (fun H1 locs1 hP1 _ hS1 => ?_)
  refine k H1 locs1 ls ?_ hS1 hl
  rw [hcl] at hP1
  have e9 := zwl_set (K := (l, D, A, ad, N, cI, cC, cS)) (ct := ct) (k := a) (.inl (cS, n, .inr (.inr (.inr (.inr (va_up g z (some (ad v))))))))
  exact e9 ▸ hP1
/-- a contract of a method that makes cells -/
def zRm (f mc ms : Nat) : Room := { frames := f, cells := mc, slots := ms, locals := 32 * f }
def zPn (K : zK) (av : List Value) (ct : zE) (P : State → Prop) : Array Value → State → Prop := va_Pc av (fun U => zW K ct U ∧ (∀ q, U.heap.size ≤ q → kA K q) ∧ P U)
def zQn (K : zK) (post : List Nat → zE → Prop) : Array Value → State → Outcome → State → Prop := va_Qv (S := List Nat × zE) (fun u => post u.1 u.2 ∧ zInj (zx K u.1)) (fun u t => va_P (kD K) vwCl (zwl (zx K u.1) u.2) t.heap) (kA K)
def zN (K : zK) (y : MethodName) (b : ByteArray) (nL f mc ms : Nat) (av : List Value) (ct : zE) (P : State → Prop) (post : List Nat → zE → Prop) : Prop := Met (kl K) y (.code y b nL none :: zTB) (zRm f mc ms) (zPn K av ct P) (zQn K post) mc ms (kA K)
def zEn (K : zK) (X : zX) (b : ByteArray) (nL mc ms : Nat) (post : List Nat → zE → Prop) : Prop := ∀ (pc : Nat) (lo : List (Nat × Value)) (L : List Nat) (u : zE) (c n : Nat), c ≤ mc → n ≤ ms → decode b pc = .ok (.return_, 1) → post L u → zInj (zx K L) → G (zx K L) (zXg X c n) nL pc lo [] u
theorem zN_in {K : zK} (hI : zInj K) {y : MethodName} {b : ByteArray} {nL f mc ms : Nat} {av : List Value} {ct : zE} {P : State → Prop} {post : List Nat → zE → Prop} (hy : plainName y.cls = true) (hn : (lg_sl av).length ≤ nL) (hyn : y.name = "<init>")
    (body : ∀ X : zX, zO K X b y.cls none nL f → (xme X).name = "<init>" → (∀ q, (xs X).heap.size ≤ q → kA K q) → P (xs X) → xc X = 0 → xn X = 0 → (xR X).cells = mc → (xR X).slots = ms → zEn K X b nL mc ms post → G K X nL 0 (lv_args 0 av) [] ct) : zN K y b nL f mc ms av ct P post := by
  obtain ⟨l, D, A, ad, N, cI, cC, cS⟩ := K
  refine Met.ofW (cc := b) (maxL := nL) (ret := none) hy rfl ?_
  intro p e s m args below meth c s₁ B hml hv
  obtain ⟨rfl, ⟨hP, hK, hZ⟩, hA, hPs⟩ := hv
  have hts := atoms_spec (ws := .code y b nL none :: zTB) B.pre
  have hnm : meth.name = "<init>" := (name_of_methodNamed B.named B.method).1.trans hyn
  rw [lg_entry_eq]
  refine body (p, e, zRm f mc ms, s, m, av.toArray, below, meth, c, MQ below (zQn (l, D, A, ad, N, cI, cC, cS) post) av.toArray s mc ms A, 0, 0) ⟨B.exec, B.bytes, B.returns, hml, findClass_of_methodNamed B.named, fun w hw => hts w (List.mem_cons_of_mem _ hw), B.notSynchronized, hK, hZ, hI, Nat.le_refl _, Nat.le_refl _, Nat.zero_le _, Nat.zero_le _⟩ hnm hA hPs rfl rfl rfl rfl ?_ s.heap [] _ hP va_S.rf (lv_entry av hn)
  intro pc lo L u c2 n2 hc hn2 hd hpost hI2 H locs ls hP hS hl
  refine W.widen (k := mc) (n := ms) (by show 0 + c2 ≤ mc; omega) (by show 0 + n2 ≤ ms; omega) ?_
  exact W.vret B.exec B.bytes B.returns (fun t ht hW => ⟨⟨(L, u), rfl, ⟨hpost, hI2⟩, by show va_P _ _ _ t.heap; rw [ht]; exact hP⟩, hS.F ht⟩) hS.2.2 hd B.notSynchronized
theorem zblindN {K : zK} {av : List Value} {ct : zE} {P : State → Prop} (hb : ∀ (a : Array Value) (U : State) (g : JFrame) (mk : MethodId), P U → P (U.calling g mk a)) : FrameBlind (zPn K av ct P) := fun a U g mk q => by
  obtain ⟨q0, ⟨q1, q2, q3⟩, q4, q5⟩ := q
  exact ⟨q0, ⟨q1, va_K.moved (u := U) (U := U.calling g mk a) (Vm.Alike.refl U.vm) q2, zNest_same rfl q3⟩, q4, hb a U g mk q5⟩
theorem zroomN {f f' mc ms nL' : Nat} {R : Room} (h : f' + 1 ≤ f) (hn : nL' ≤ 13) (h1 : f ≤ R.frames) (h2 : 32 * f ≤ R.locals) : (zRm f' mc ms).frames + 1 ≤ R.frames ∧ 8 + (nL' + 11) + (zRm f' mc ms).locals ≤ R.locals := by
  refine ⟨Nat.le_trans h h1, Nat.le_trans ?_ h2⟩
  show 8 + (nL' + 11) + 32 * f' ≤ 32 * f
  omega
theorem r_callIN0 {K : zK} {X : zX} {cc : ByteArray} {own : String} {ret : Option FieldType} {nL f pc : Nat} {lo : List (Nat × Value)} {st : List Value} {ct : zE} {y : MethodName} {b : ByteArray} {nL2 f2 mc ms idx a : Nat} {P : State → Prop} {post : List Nat → zE → Prop} (O : zO K X cc own ret nL f) (hA : ∀ q, (xs X).heap.size ≤ q → kA K q) (hC : zN K y b nL2 f2 mc ms (.ref a :: []) ct P post) (hbl : ∀ (a : Array Value) (U : State) (g : JFrame) (mk : MethodId), P U → P (U.calling g mk a)) (hPt : ∀ (U : State) (H : Heap) (locs : List Loc), va_S (kA K) (xs X).heap H locs → U.heap = H → (xs X).WarmedH U.vm → P U) (hlk2 : va_Nw (.methodLinkNest own idx y RX5) (xs X)) (hi : Cond.instanceMethod y ∈ zTB) (hin : Cond.initialized y.cls ∈ zTB) (hcode : Cond.code y b nL2 none ∈ zTB) (hds : zDs y 0) (hyn : y.name = "<init>") (hf : f2 + 1 ≤ f) (hn : nL2 ≤ 13) (hs : (st.map fun v => v.category).sum ≤ 8) (hc : xc X + mc ≤ (xR X).cells) (hm : xn X + ms ≤ (xR X).slots) (hd : decode cc pc = .ok (.invokespecial idx, 3)) (k : ∀ (L : List Nat) (u : zE), post L u → zO (zx K L) (zXg X mc ms) cc own ret nL f → G (zx K L) (zXg X mc ms) nL (pc + 3) lo st u) : G K X nL pc lo (.ref a :: st) ct := by
  have O1 := O
  obtain ⟨l, D, A, ad, N, cI, cC, cS⟩ := K
  obtain ⟨p, e, R, s, m, args, below, meth, c, Q, cells, slots⟩ := X
  obtain ⟨hx, hb, hr, hml, hown, hts, hlk, hK, hZ, hI, hf1, hf2, hc1, hc2⟩ := O
  intro H locs ls hP hS hl
  exact va_callv (va_runIN (As := []) (rest := st) (host := RX5) ⟨hx, hb, hml, hown, hts⟩ hC ⟨va_cnB 0 hts (zgoodC hcode) rfl rfl rfl hlk2 (hts _ hin) hds (zroomN hf hn hf1 hf2), hyn, hts _ hi⟩ ⟨zblindN hbl, fun U hU hW => ⟨rfl, ⟨by rw [hU]; exact hP, va_K.moved hW.alike hK, zNest_warm hW hZ⟩, by rw [hU]; exact fun q h => hA q (Nat.le_trans hS.1 h), hPt U H locs hS hU hW⟩⟩ rfl rfl hl.1 rfl (zcat hs) hd ⟨hc, hm⟩) hS (fun q _ h => h) (fun q h => h) (fun u t H1 locs1 ht _ hw hB _ _ hS1 => k u.1 u.2 hw.1 (zO_grow O1 rfl rfl hw.2 hc hm) H1 locs1 ls (by rw [← ht]; exact hB) hS1 hl)
theorem r_callI1 {K : zK} {X : zX} {cc : ByteArray} {own : String} {ret : Option FieldType} {nL f pc : Nat} {lo : List (Nat × Value)} {st : List Value} {ct : zE} {y : MethodName} {b : ByteArray} {nL2 f2 mc ms idx a : Nat} {a1 : Value} {P : State → Prop} {post : List Nat → zE → Prop} (O : zO K X cc own ret nL f) (hA : ∀ q, (xs X).heap.size ≤ q → kA K q) (hC : zN K y b nL2 f2 mc ms (.ref a :: [a1]) ct P post) (hbl : ∀ (a : Array Value) (U : State) (g : JFrame) (mk : MethodId), P U → P (U.calling g mk a)) (hPt : ∀ (U : State) (H : Heap) (locs : List Loc), va_S (kA K) (xs X).heap H locs → U.heap = H → (xs X).WarmedH U.vm → P U) (hlk2 : Cond.methodLink own idx y ∈ zTB) (hi : Cond.instanceMethod y ∈ zTB) (hin : Cond.initialized y.cls ∈ zTB) (hcode : Cond.code y b nL2 none ∈ zTB) (hds : zDs y 1) (hyn : y.name = "<init>") (hf : f2 + 1 ≤ f) (hn : nL2 ≤ 13) (hs : (st.map fun v => v.category).sum ≤ 8) (hc : xc X + mc ≤ (xR X).cells) (hm : xn X + ms ≤ (xR X).slots) (hd : decode cc pc = .ok (.invokespecial idx, 3)) (k : ∀ (L : List Nat) (u : zE), post L u → zO (zx K L) (zXg X mc ms) cc own ret nL f → G (zx K L) (zXg X mc ms) nL (pc + 3) lo st u) : G K X nL pc lo (a1 :: .ref a :: st) ct := by
  have O1 := O
  obtain ⟨l, D, A, ad, N, cI, cC, cS⟩ := K
  obtain ⟨p, e, R, s, m, args, below, meth, c, Q, cells, slots⟩ := X
  obtain ⟨hx, hb, hr, hml, hown, hts, hlk, hK, hZ, hI, hf1, hf2, hc1, hc2⟩ := O
  intro H locs ls hP hS hl
  exact va_callv (va_runI (As := [a1]) (rest := st) ⟨hx, hb, hml, hown, hts⟩ hC ⟨callB_of 1 hts (zgoodC hcode) rfl rfl rfl (hts _ hin) (hts _ hlk2) hds (zroomN hf hn hf1 hf2), hyn, hts _ hi⟩ ⟨zblindN hbl, fun U hU hW => ⟨rfl, ⟨by rw [hU]; exact hP, va_K.moved hW.alike hK, zNest_warm hW hZ⟩, by rw [hU]; exact fun q h => hA q (Nat.le_trans hS.1 h), hPt U H locs hS hU hW⟩⟩ rfl rfl hl.1 rfl (zcat hs) hd ⟨hc, hm⟩) hS (fun q _ h => h) (fun q h => h) (fun u t H1 locs1 ht _ hw hB _ _ hS1 => k u.1 u.2 hw.1 (zO_grow O1 rfl rfl hw.2 hc hm) H1 locs1 ls (by rw [← ht]; exact hB) hS1 hl)
