/-! CALLS WITHIN A PART OF THE WORLD -/
def zpt (K : zK) (off n : Nat) : zK := (kl K, kD K, (fun q => ∃ i : Nat, i < n ∧ q = kad K (off + i)), (fun i => kad K (off + i)), n, kI K, kC K, kS K)
def zmix (off n : Nat) (u ct : zE) : zE := fun k => if off ≤ k ∧ k < off + n then u (k - off) else ct k
theorem zmix_in {off n : Nat} {u ct : zE} {i : Nat} (h : i < n) : zmix off n u ct (off + i) = u i := by
  unfold zmix
  rw [if_pos ⟨by omega, by omega⟩, Nat.add_sub_cancel_left]
theorem zmix_out {off n : Nat} {u ct : zE} {k : Nat} (h : k < off ∨ off + n ≤ k) : zmix off n u ct k = ct k := if_neg (by omega)
theorem zpt_inj {K : zK} (hI : zInj K) {off n : Nat} (h : off + n ≤ kN K) : zInj (zpt K off n) := by
  refine ⟨fun i j hi hj e => ?_, fun i hi => ⟨i, hi, rfl⟩⟩
  have hi : i < n := hi
  have hj : j < n := hj
  have e : kad K (off + i) = kad K (off + j) := e
  have := hI.1 (off + i) (off + j) (by omega) (by omega) e
  omega
theorem zpt_A {K : zK} (hI : zInj K) {off n : Nat} (h : off + n ≤ kN K) : ∀ q, kA (zpt K off n) q → kA K q := by
  intro q hq
  obtain ⟨i, hi, rfl⟩ := hq
  exact hI.2 _ (by omega)
theorem zpt_P {K : zK} {ct c2 : zE} {H : Heap} {off n : Nat} (h : off + n ≤ kN K) (hc : ∀ i, i < n → ct (off + i) = c2 i) (hP : va_P (kD K) vwCl (zwl K ct) H) : va_P (kD K) vwCl (zwl (zpt K off n) c2) H :=
  zx_P (K := K) (K2 := zpt K off n) rfl (fun i hi => ⟨off + i, Nat.lt_of_lt_of_le (Nat.add_lt_add_left hi off) h, rfl, Or.inl (hc i hi)⟩) hP
theorem zmix_P {K : zK} (hI : zInj K) {off n : Nat} (h : off + n ≤ kN K) {u ct : zE} {H H1 : Heap} (hP : va_P (kD K) vwCl (zwl K ct) H) (hB : va_P (kD K) vwCl (zwl (zpt K off n) u) H1) (hk : ∀ q, q < H.size → ¬ kA (zpt K off n) q → H1[q]? = H[q]?) : va_P (kD K) vwCl (zwl K (zmix off n u ct)) H1 := by
  intro k q hk9
  have hl : k < kN K := by
    have := (List.getElem?_eq_some_iff.mp hk9).1
    simpa [zwl] using this
  rw [zwl_at hl] at hk9
  cases hk9
  by_cases hm : off ≤ k ∧ k < off + n
  · have h1 := hB (k - off) _ (zwl_at (K := zpt K off n) (show k - off < n by omega))
    have e : off + (k - off) = k := by omega
    have e2 : kad (zpt K off n) (k - off) = kad K k := by
      show kad K (off + (k - off)) = _
      rw [e]
    rw [e2] at h1
    unfold zmix
    rw [if_pos hm]
    exact h1
  · rw [zmix_out (by omega)]
    have h1 := hP k _ (zwl_at hl)
    refine h1.kept (hk _ h1.lt ?_)
    intro ⟨i, hi, e⟩
    have := hI.1 k (off + i) hl (by omega) e
    omega
/-- contracts that know something of the state -/
def zMP (K : zK) (y : MethodName) (b : ByteArray) (nL : Nat) (ret : Option FieldType) (f : Nat) (av : List Value) (ct : zE) (P : State → Prop) (Qc : Array Value → State → Outcome → State → Prop) : Prop := Met (kl K) y (.code y b nL ret :: zTB) (zRoom f) (va_Pc av (fun U => zW K ct U ∧ P U)) Qc 0 0 (kA K)
def zCPi (K : zK) (y : MethodName) (b : ByteArray) (nL : Nat) (ret : Option FieldType) (f : Nat) (av : List Value) (ct : zE) (P : State → Prop) (post : Int → zE → Prop) : Prop := zMP K y b nL ret f av ct P (zQi K post)
def zCPv (K : zK) (y : MethodName) (b : ByteArray) (nL f : Nat) (av : List Value) (ct : zE) (P : State → Prop) (post : zE → Prop) : Prop := zMP K y b nL none f av ct P (zQv K post)
/-- what stays: blind to frames, kept by what the method writes -/
def zPk (K : zK) (P : State → Prop) : Prop := (∀ (a : Array Value) (U : State) (g : JFrame) (mk : MethodId), P U → P (U.calling g mk a)) ∧ ∀ (s U : State) (H : Heap) (locs : List Loc), P s → va_S (kA K) s.heap H locs → U.heap = H → s.WarmedH U.vm → P U
theorem zblindP {K : zK} {av : List Value} {ct : zE} {P : State → Prop} (hb : zPk K P) : FrameBlind (va_Pc av (fun U => zW K ct U ∧ P U)) := fun a U g mk q => by
  obtain ⟨q0, ⟨q1, q2, q3⟩, q5⟩ := q
  exact ⟨q0, ⟨q1, va_K.moved (u := U) (U := U.calling g mk a) (Vm.Alike.refl U.vm) q2, zNest_same rfl q3⟩, hb.1 a U g mk q5⟩
theorem zCPi_in {K : zK} (hI : zInj K) {y : MethodName} {b : ByteArray} {nL : Nat} {rt : FieldType} {f : Nat} {av : List Value} {ct : zE} {P : State → Prop} {post : Int → zE → Prop} (hy : plainName y.cls = true) (hn : (lg_sl av).length ≤ nL)
    (body : ∀ X : zX, zO K X b y.cls (some rt) nL f → P (xs X) → zEi K X b nL rt post → G K X nL 0 (lv_args 0 av) [] ct) : zCPi K y b nL (some rt) f av ct P post := by
  obtain ⟨l, D, A, ad, N, cI, cC, cS⟩ := K
  refine Met.ofW (cc := b) (maxL := nL) (ret := some rt) hy rfl ?_
  intro p e s m args below meth c s₁ B hml hv
  obtain ⟨rfl, ⟨hP, hK, hZ⟩, hPs⟩ := hv
  have hts := atoms_spec (ws := .code y b nL (some rt) :: zTB) B.pre
  rw [lg_entry_eq]
  refine body (p, e, zRoom f, s, m, av.toArray, below, meth, c, MQ below (zQi (l, D, A, ad, N, cI, cC, cS) post) av.toArray s 0 0 A, 0, 0) ⟨B.exec, B.bytes, B.returns, hml, findClass_of_methodNamed B.named, fun w hw => hts w (List.mem_cons_of_mem _ hw), B.notSynchronized, hK, hZ, hI, Nat.le_refl _, Nat.le_refl _, Nat.le_refl _, Nat.le_refl _⟩ hPs ?_ s.heap [] _ hP va_S.rf (lv_entry av hn)
  intro pc lo z u hd hnr hpost H locs ls hP hS hl
  exact W.zret B.exec B.bytes B.returns hnr (fun t ht hW => ⟨⟨iI z, u, rfl, ⟨z, rfl, hpost⟩, by show va_P _ _ _ t.heap; rw [ht]; exact hP⟩, hS.F ht⟩) hS.2.2 hd B.notSynchronized
theorem zCPv_in {K : zK} (hI : zInj K) {y : MethodName} {b : ByteArray} {nL : Nat} {f : Nat} {av : List Value} {ct : zE} {P : State → Prop} {post : zE → Prop} (hy : plainName y.cls = true) (hn : (lg_sl av).length ≤ nL)
    (body : ∀ X : zX, zO K X b y.cls none nL f → P (xs X) → zEv K X b nL post → G K X nL 0 (lv_args 0 av) [] ct) : zCPv K y b nL f av ct P post := by
  obtain ⟨l, D, A, ad, N, cI, cC, cS⟩ := K
  refine Met.ofW (cc := b) (maxL := nL) (ret := none) hy rfl ?_
  intro p e s m args below meth c s₁ B hml hv
  obtain ⟨rfl, ⟨hP, hK, hZ⟩, hPs⟩ := hv
  have hts := atoms_spec (ws := .code y b nL none :: zTB) B.pre
  rw [lg_entry_eq]
  refine body (p, e, zRoom f, s, m, av.toArray, below, meth, c, MQ below (zQv (l, D, A, ad, N, cI, cC, cS) post) av.toArray s 0 0 A, 0, 0) ⟨B.exec, B.bytes, B.returns, hml, findClass_of_methodNamed B.named, fun w hw => hts w (List.mem_cons_of_mem _ hw), B.notSynchronized, hK, hZ, hI, Nat.le_refl _, Nat.le_refl _, Nat.le_refl _, Nat.le_refl _⟩ hPs ?_ s.heap [] _ hP va_S.rf (lv_entry av hn)
  intro pc lo u hd hpost H locs ls hP hS hl
  exact W.vret B.exec B.bytes B.returns (fun t ht hW => ⟨⟨u, rfl, hpost, by show va_P _ _ _ t.heap; rw [ht]; exact hP⟩, hS.F ht⟩) hS.2.2 hd B.notSynchronized
theorem r_fV0i {K : zK} {X : zX} {cc : ByteArray} {own : String} {ret : Option FieldType} {nL f pc : Nat} {lo : List (Nat × Value)} {st : List Value} {ct : zE} {y : MethodName} {b : ByteArray} {nL2 f2 idx : Nat} {rt : Option FieldType} {o co : Nat} {q : String × u_T × Nat} {fs : List Value} {c2 : zE} {post : Int → zE → Prop} (off n2 : Nat) (O : zO K X cc own ret nL f) (hoN : off + n2 ≤ kN K) (hct : ∀ i, i < n2 → ct (off + i) = c2 i) (hC : zCi (zpt K off n2) y b nL2 rt f2 (.ref (kad K (off + o)) :: []) c2 post) (hq : zQV own idx y b nL2 rt 0) (ho : o < n2) (he : c2 o = .inr (co, fs)) (hcl : vwCl[co]? = some q) (hqc : q.1 = y.cls) (hf : f2 + 1 ≤ f) (hn : nL2 ≤ 13) (hs : (st.map fun v => v.category).sum ≤ 8) (hd : decode cc pc = .ok (.invokevirtual idx, 3)) (k : ∀ (z : Int) (u : zE), post z u → G K X nL (pc + 3) lo (.int (iI z) :: st) (zmix off n2 u ct)) : G K X nL pc lo (.ref (kad K (off + o)) :: st) ct := by
  obtain ⟨l, D, A, ad, N, cI, cC, cS⟩ := K
  obtain ⟨p, e, R, s, m, args, below, meth, c, Q, cells, slots⟩ := X
  obtain ⟨hx, hb, hr, hml, hown, hts, hlk, hK, hZ, hI, hf1, hf2, hc1, hc2⟩ := O
  intro H locs ls hP hS hl
  have hM : Met l y (.code y b nL2 rt :: zTB) (zRoom f2) (va_Pc (.ref (ad (off + o)) :: []) (zW (zpt (l, D, A, ad, N, cI, cC, cS) off n2) c2)) (zQi (zpt (l, D, A, ad, N, cI, cC, cS) off n2) post) 0 0 (kA (zpt (l, D, A, ad, N, cI, cC, cS) off n2)) := hC
  have ho2 : off + o < kN (l, D, A, ad, N, cI, cC, cS) := by have : off + n2 ≤ kN (l, D, A, ad, N, cI, cC, cS) := hoN; omega
  refine va_calli (va_runV (As := []) (rest := st) ⟨hx, hb, hml, hown, hts⟩ hM ⟨callB_of 0 hts (zgoodC hq.2.2.2.2.1) rfl rfl rfl (hts _ hq.2.2.2.1) (hts _ hq.1) hq.2.2.2.2.2 (zroom hf hn hf1 hf2), hts _ hq.2.1, hts _ hq.2.2.1⟩ ⟨zblind, hqc ▸ va_recv hK hP (ci := co) (q0 := off + o) hcl ((zwl_at ho2).trans (by rw [hct o ho, he]; rfl)), fun U hU hW => ⟨rfl, by rw [hU]; exact zpt_P hoN hct hP, va_K.moved hW.alike hK, zNest_warm hW hZ⟩⟩ rfl rfl hl.1 rfl (zcat hs) hd ⟨hc1, hc2⟩) hS (fun q _ h => zpt_A hI hoN q h) (fun q h => zpt_A hI hoN q h) ?_
  intro r u t H1 locs1 ht _ hw hB _ hk hS1
  obtain ⟨z, rfl, hp⟩ := hw
  exact k z u hp H1 locs1 ls (zmix_P hI hoN hP (by rw [← ht]; exact hB) hk) hS1 hl
theorem r_fV0v {K : zK} {X : zX} {cc : ByteArray} {own : String} {ret : Option FieldType} {nL f pc : Nat} {lo : List (Nat × Value)} {st : List Value} {ct : zE} {y : MethodName} {b : ByteArray} {nL2 f2 idx : Nat} {o co : Nat} {q : String × u_T × Nat} {fs : List Value} {c2 : zE} {post : zE → Prop} (off n2 : Nat) (O : zO K X cc own ret nL f) (hoN : off + n2 ≤ kN K) (hct : ∀ i, i < n2 → ct (off + i) = c2 i) (hC : zCv (zpt K off n2) y b nL2 f2 (.ref (kad K (off + o)) :: []) c2 post) (hq : zQV own idx y b nL2 none 0) (ho : o < n2) (he : c2 o = .inr (co, fs)) (hcl : vwCl[co]? = some q) (hqc : q.1 = y.cls) (hf : f2 + 1 ≤ f) (hn : nL2 ≤ 13) (hs : (st.map fun v => v.category).sum ≤ 8) (hd : decode cc pc = .ok (.invokevirtual idx, 3)) (k : ∀ u : zE, post u → G K X nL (pc + 3) lo st (zmix off n2 u ct)) : G K X nL pc lo (.ref (kad K (off + o)) :: st) ct := by
  obtain ⟨l, D, A, ad, N, cI, cC, cS⟩ := K
  obtain ⟨p, e, R, s, m, args, below, meth, c, Q, cells, slots⟩ := X
  obtain ⟨hx, hb, hr, hml, hown, hts, hlk, hK, hZ, hI, hf1, hf2, hc1, hc2⟩ := O
  intro H locs ls hP hS hl
  have hM : Met l y (.code y b nL2 none :: zTB) (zRoom f2) (va_Pc (.ref (ad (off + o)) :: []) (zW (zpt (l, D, A, ad, N, cI, cC, cS) off n2) c2)) (zQv (zpt (l, D, A, ad, N, cI, cC, cS) off n2) post) 0 0 (kA (zpt (l, D, A, ad, N, cI, cC, cS) off n2)) := hC
  have ho2 : off + o < kN (l, D, A, ad, N, cI, cC, cS) := by have : off + n2 ≤ kN (l, D, A, ad, N, cI, cC, cS) := hoN; omega
  refine va_callv (va_runV (As := []) (rest := st) ⟨hx, hb, hml, hown, hts⟩ hM ⟨callB_of 0 hts (zgoodC hq.2.2.2.2.1) rfl rfl rfl (hts _ hq.2.2.2.1) (hts _ hq.1) hq.2.2.2.2.2 (zroom hf hn hf1 hf2), hts _ hq.2.1, hts _ hq.2.2.1⟩ ⟨zblind, hqc ▸ va_recv hK hP (ci := co) (q0 := off + o) hcl ((zwl_at ho2).trans (by rw [hct o ho, he]; rfl)), fun U hU hW => ⟨rfl, by rw [hU]; exact zpt_P hoN hct hP, va_K.moved hW.alike hK, zNest_warm hW hZ⟩⟩ rfl rfl hl.1 rfl (zcat hs) hd ⟨hc1, hc2⟩) hS (fun q _ h => zpt_A hI hoN q h) (fun q h => zpt_A hI hoN q h) ?_
  intro u t H1 locs1 ht _ hw hB _ hk hS1
  exact k u hw H1 locs1 ls (zmix_P hI hoN hP (by rw [← ht]; exact hB) hk) hS1 hl
theorem r_fV1i {K : zK} {X : zX} {cc : ByteArray} {own : String} {ret : Option FieldType} {nL f pc : Nat} {lo : List (Nat × Value)} {st : List Value} {ct : zE} {y : MethodName} {b : ByteArray} {nL2 f2 idx : Nat} {rt : Option FieldType} {a1 : Value} {o co : Nat} {q : String × u_T × Nat} {fs : List Value} {c2 : zE} {post : Int → zE → Prop} (off n2 : Nat) (O : zO K X cc own ret nL f) (hoN : off + n2 ≤ kN K) (hct : ∀ i, i < n2 → ct (off + i) = c2 i) (hC : zCi (zpt K off n2) y b nL2 rt f2 (.ref (kad K (off + o)) :: [a1]) c2 post) (hq : zQV own idx y b nL2 rt 1) (ho : o < n2) (he : c2 o = .inr (co, fs)) (hcl : vwCl[co]? = some q) (hqc : q.1 = y.cls) (hf : f2 + 1 ≤ f) (hn : nL2 ≤ 13) (hs : (st.map fun v => v.category).sum ≤ 8) (hd : decode cc pc = .ok (.invokevirtual idx, 3)) (k : ∀ (z : Int) (u : zE), post z u → G K X nL (pc + 3) lo (.int (iI z) :: st) (zmix off n2 u ct)) : G K X nL pc lo (a1 :: .ref (kad K (off + o)) :: st) ct := by
  obtain ⟨l, D, A, ad, N, cI, cC, cS⟩ := K
  obtain ⟨p, e, R, s, m, args, below, meth, c, Q, cells, slots⟩ := X
  obtain ⟨hx, hb, hr, hml, hown, hts, hlk, hK, hZ, hI, hf1, hf2, hc1, hc2⟩ := O
  intro H locs ls hP hS hl
  have hM : Met l y (.code y b nL2 rt :: zTB) (zRoom f2) (va_Pc (.ref (ad (off + o)) :: [a1]) (zW (zpt (l, D, A, ad, N, cI, cC, cS) off n2) c2)) (zQi (zpt (l, D, A, ad, N, cI, cC, cS) off n2) post) 0 0 (kA (zpt (l, D, A, ad, N, cI, cC, cS) off n2)) := hC
  have ho2 : off + o < kN (l, D, A, ad, N, cI, cC, cS) := by have : off + n2 ≤ kN (l, D, A, ad, N, cI, cC, cS) := hoN; omega
  refine va_calli (va_runV (As := [a1]) (rest := st) ⟨hx, hb, hml, hown, hts⟩ hM ⟨callB_of 1 hts (zgoodC hq.2.2.2.2.1) rfl rfl rfl (hts _ hq.2.2.2.1) (hts _ hq.1) hq.2.2.2.2.2 (zroom hf hn hf1 hf2), hts _ hq.2.1, hts _ hq.2.2.1⟩ ⟨zblind, hqc ▸ va_recv hK hP (ci := co) (q0 := off + o) hcl ((zwl_at ho2).trans (by rw [hct o ho, he]; rfl)), fun U hU hW => ⟨rfl, by rw [hU]; exact zpt_P hoN hct hP, va_K.moved hW.alike hK, zNest_warm hW hZ⟩⟩ rfl rfl hl.1 rfl (zcat hs) hd ⟨hc1, hc2⟩) hS (fun q _ h => zpt_A hI hoN q h) (fun q h => zpt_A hI hoN q h) ?_
  intro r u t H1 locs1 ht _ hw hB _ hk hS1
  obtain ⟨z, rfl, hp⟩ := hw
  exact k z u hp H1 locs1 ls (zmix_P hI hoN hP (by rw [← ht]; exact hB) hk) hS1 hl
theorem r_fV1v {K : zK} {X : zX} {cc : ByteArray} {own : String} {ret : Option FieldType} {nL f pc : Nat} {lo : List (Nat × Value)} {st : List Value} {ct : zE} {y : MethodName} {b : ByteArray} {nL2 f2 idx : Nat} {a1 : Value} {o co : Nat} {q : String × u_T × Nat} {fs : List Value} {c2 : zE} {post : zE → Prop} (off n2 : Nat) (O : zO K X cc own ret nL f) (hoN : off + n2 ≤ kN K) (hct : ∀ i, i < n2 → ct (off + i) = c2 i) (hC : zCv (zpt K off n2) y b nL2 f2 (.ref (kad K (off + o)) :: [a1]) c2 post) (hq : zQV own idx y b nL2 none 1) (ho : o < n2) (he : c2 o = .inr (co, fs)) (hcl : vwCl[co]? = some q) (hqc : q.1 = y.cls) (hf : f2 + 1 ≤ f) (hn : nL2 ≤ 13) (hs : (st.map fun v => v.category).sum ≤ 8) (hd : decode cc pc = .ok (.invokevirtual idx, 3)) (k : ∀ u : zE, post u → G K X nL (pc + 3) lo st (zmix off n2 u ct)) : G K X nL pc lo (a1 :: .ref (kad K (off + o)) :: st) ct := by
  obtain ⟨l, D, A, ad, N, cI, cC, cS⟩ := K
  obtain ⟨p, e, R, s, m, args, below, meth, c, Q, cells, slots⟩ := X
  obtain ⟨hx, hb, hr, hml, hown, hts, hlk, hK, hZ, hI, hf1, hf2, hc1, hc2⟩ := O
  intro H locs ls hP hS hl
  have hM : Met l y (.code y b nL2 none :: zTB) (zRoom f2) (va_Pc (.ref (ad (off + o)) :: [a1]) (zW (zpt (l, D, A, ad, N, cI, cC, cS) off n2) c2)) (zQv (zpt (l, D, A, ad, N, cI, cC, cS) off n2) post) 0 0 (kA (zpt (l, D, A, ad, N, cI, cC, cS) off n2)) := hC
  have ho2 : off + o < kN (l, D, A, ad, N, cI, cC, cS) := by have : off + n2 ≤ kN (l, D, A, ad, N, cI, cC, cS) := hoN; omega
  refine va_callv (va_runV (As := [a1]) (rest := st) ⟨hx, hb, hml, hown, hts⟩ hM ⟨callB_of 1 hts (zgoodC hq.2.2.2.2.1) rfl rfl rfl (hts _ hq.2.2.2.1) (hts _ hq.1) hq.2.2.2.2.2 (zroom hf hn hf1 hf2), hts _ hq.2.1, hts _ hq.2.2.1⟩ ⟨zblind, hqc ▸ va_recv hK hP (ci := co) (q0 := off + o) hcl ((zwl_at ho2).trans (by rw [hct o ho, he]; rfl)), fun U hU hW => ⟨rfl, by rw [hU]; exact zpt_P hoN hct hP, va_K.moved hW.alike hK, zNest_warm hW hZ⟩⟩ rfl rfl hl.1 rfl (zcat hs) hd ⟨hc1, hc2⟩) hS (fun q _ h => zpt_A hI hoN q h) (fun q h => zpt_A hI hoN q h) ?_
  intro u t H1 locs1 ht _ hw hB _ hk hS1
  exact k u hw H1 locs1 ls (zmix_P hI hoN hP (by rw [← ht]; exact hB) hk) hS1 hl
theorem r_fV2i {K : zK} {X : zX} {cc : ByteArray} {own : String} {ret : Option FieldType} {nL f pc : Nat} {lo : List (Nat × Value)} {st : List Value} {ct : zE} {y : MethodName} {b : ByteArray} {nL2 f2 idx : Nat} {rt : Option FieldType} {a1 a2 : Value} {o co : Nat} {q : String × u_T × Nat} {fs : List Value} {c2 : zE} {post : Int → zE → Prop} (off n2 : Nat) (O : zO K X cc own ret nL f) (hoN : off + n2 ≤ kN K) (hct : ∀ i, i < n2 → ct (off + i) = c2 i) (hC : zCi (zpt K off n2) y b nL2 rt f2 (.ref (kad K (off + o)) :: [a1, a2]) c2 post) (hq : zQV own idx y b nL2 rt 2) (ho : o < n2) (he : c2 o = .inr (co, fs)) (hcl : vwCl[co]? = some q) (hqc : q.1 = y.cls) (hf : f2 + 1 ≤ f) (hn : nL2 ≤ 13) (hs : (st.map fun v => v.category).sum ≤ 8) (hd : decode cc pc = .ok (.invokevirtual idx, 3)) (k : ∀ (z : Int) (u : zE), post z u → G K X nL (pc + 3) lo (.int (iI z) :: st) (zmix off n2 u ct)) : G K X nL pc lo (a2 :: a1 :: .ref (kad K (off + o)) :: st) ct := by
  obtain ⟨l, D, A, ad, N, cI, cC, cS⟩ := K
  obtain ⟨p, e, R, s, m, args, below, meth, c, Q, cells, slots⟩ := X
  obtain ⟨hx, hb, hr, hml, hown, hts, hlk, hK, hZ, hI, hf1, hf2, hc1, hc2⟩ := O
  intro H locs ls hP hS hl
  have hM : Met l y (.code y b nL2 rt :: zTB) (zRoom f2) (va_Pc (.ref (ad (off + o)) :: [a1, a2]) (zW (zpt (l, D, A, ad, N, cI, cC, cS) off n2) c2)) (zQi (zpt (l, D, A, ad, N, cI, cC, cS) off n2) post) 0 0 (kA (zpt (l, D, A, ad, N, cI, cC, cS) off n2)) := hC
  have ho2 : off + o < kN (l, D, A, ad, N, cI, cC, cS) := by have : off + n2 ≤ kN (l, D, A, ad, N, cI, cC, cS) := hoN; omega
  refine va_calli (va_runV (As := [a1, a2]) (rest := st) ⟨hx, hb, hml, hown, hts⟩ hM ⟨callB_of 2 hts (zgoodC hq.2.2.2.2.1) rfl rfl rfl (hts _ hq.2.2.2.1) (hts _ hq.1) hq.2.2.2.2.2 (zroom hf hn hf1 hf2), hts _ hq.2.1, hts _ hq.2.2.1⟩ ⟨zblind, hqc ▸ va_recv hK hP (ci := co) (q0 := off + o) hcl ((zwl_at ho2).trans (by rw [hct o ho, he]; rfl)), fun U hU hW => ⟨rfl, by rw [hU]; exact zpt_P hoN hct hP, va_K.moved hW.alike hK, zNest_warm hW hZ⟩⟩ rfl rfl hl.1 rfl (zcat hs) hd ⟨hc1, hc2⟩) hS (fun q _ h => zpt_A hI hoN q h) (fun q h => zpt_A hI hoN q h) ?_
  intro r u t H1 locs1 ht _ hw hB _ hk hS1
  obtain ⟨z, rfl, hp⟩ := hw
  exact k z u hp H1 locs1 ls (zmix_P hI hoN hP (by rw [← ht]; exact hB) hk) hS1 hl
theorem r_fV2v {K : zK} {X : zX} {cc : ByteArray} {own : String} {ret : Option FieldType} {nL f pc : Nat} {lo : List (Nat × Value)} {st : List Value} {ct : zE} {y : MethodName} {b : ByteArray} {nL2 f2 idx : Nat} {a1 a2 : Value} {o co : Nat} {q : String × u_T × Nat} {fs : List Value} {c2 : zE} {post : zE → Prop} (off n2 : Nat) (O : zO K X cc own ret nL f) (hoN : off + n2 ≤ kN K) (hct : ∀ i, i < n2 → ct (off + i) = c2 i) (hC : zCv (zpt K off n2) y b nL2 f2 (.ref (kad K (off + o)) :: [a1, a2]) c2 post) (hq : zQV own idx y b nL2 none 2) (ho : o < n2) (he : c2 o = .inr (co, fs)) (hcl : vwCl[co]? = some q) (hqc : q.1 = y.cls) (hf : f2 + 1 ≤ f) (hn : nL2 ≤ 13) (hs : (st.map fun v => v.category).sum ≤ 8) (hd : decode cc pc = .ok (.invokevirtual idx, 3)) (k : ∀ u : zE, post u → G K X nL (pc + 3) lo st (zmix off n2 u ct)) : G K X nL pc lo (a2 :: a1 :: .ref (kad K (off + o)) :: st) ct := by
  obtain ⟨l, D, A, ad, N, cI, cC, cS⟩ := K
  obtain ⟨p, e, R, s, m, args, below, meth, c, Q, cells, slots⟩ := X
  obtain ⟨hx, hb, hr, hml, hown, hts, hlk, hK, hZ, hI, hf1, hf2, hc1, hc2⟩ := O
  intro H locs ls hP hS hl
  have hM : Met l y (.code y b nL2 none :: zTB) (zRoom f2) (va_Pc (.ref (ad (off + o)) :: [a1, a2]) (zW (zpt (l, D, A, ad, N, cI, cC, cS) off n2) c2)) (zQv (zpt (l, D, A, ad, N, cI, cC, cS) off n2) post) 0 0 (kA (zpt (l, D, A, ad, N, cI, cC, cS) off n2)) := hC
  have ho2 : off + o < kN (l, D, A, ad, N, cI, cC, cS) := by have : off + n2 ≤ kN (l, D, A, ad, N, cI, cC, cS) := hoN; omega
  refine va_callv (va_runV (As := [a1, a2]) (rest := st) ⟨hx, hb, hml, hown, hts⟩ hM ⟨callB_of 2 hts (zgoodC hq.2.2.2.2.1) rfl rfl rfl (hts _ hq.2.2.2.1) (hts _ hq.1) hq.2.2.2.2.2 (zroom hf hn hf1 hf2), hts _ hq.2.1, hts _ hq.2.2.1⟩ ⟨zblind, hqc ▸ va_recv hK hP (ci := co) (q0 := off + o) hcl ((zwl_at ho2).trans (by rw [hct o ho, he]; rfl)), fun U hU hW => ⟨rfl, by rw [hU]; exact zpt_P hoN hct hP, va_K.moved hW.alike hK, zNest_warm hW hZ⟩⟩ rfl rfl hl.1 rfl (zcat hs) hd ⟨hc1, hc2⟩) hS (fun q _ h => zpt_A hI hoN q h) (fun q h => zpt_A hI hoN q h) ?_
  intro u t H1 locs1 ht _ hw hB _ hk hS1
  exact k u hw H1 locs1 ls (zmix_P hI hoN hP (by rw [← ht]; exact hB) hk) hS1 hl
theorem r_fV3i {K : zK} {X : zX} {cc : ByteArray} {own : String} {ret : Option FieldType} {nL f pc : Nat} {lo : List (Nat × Value)} {st : List Value} {ct : zE} {y : MethodName} {b : ByteArray} {nL2 f2 idx : Nat} {rt : Option FieldType} {a1 a2 a3 : Value} {o co : Nat} {q : String × u_T × Nat} {fs : List Value} {c2 : zE} {post : Int → zE → Prop} (off n2 : Nat) (O : zO K X cc own ret nL f) (hoN : off + n2 ≤ kN K) (hct : ∀ i, i < n2 → ct (off + i) = c2 i) (hC : zCi (zpt K off n2) y b nL2 rt f2 (.ref (kad K (off + o)) :: [a1, a2, a3]) c2 post) (hq : zQV own idx y b nL2 rt 3) (ho : o < n2) (he : c2 o = .inr (co, fs)) (hcl : vwCl[co]? = some q) (hqc : q.1 = y.cls) (hf : f2 + 1 ≤ f) (hn : nL2 ≤ 13) (hs : (st.map fun v => v.category).sum ≤ 8) (hd : decode cc pc = .ok (.invokevirtual idx, 3)) (k : ∀ (z : Int) (u : zE), post z u → G K X nL (pc + 3) lo (.int (iI z) :: st) (zmix off n2 u ct)) : G K X nL pc lo (a3 :: a2 :: a1 :: .ref (kad K (off + o)) :: st) ct := by
  obtain ⟨l, D, A, ad, N, cI, cC, cS⟩ := K
  obtain ⟨p, e, R, s, m, args, below, meth, c, Q, cells, slots⟩ := X
  obtain ⟨hx, hb, hr, hml, hown, hts, hlk, hK, hZ, hI, hf1, hf2, hc1, hc2⟩ := O
  intro H locs ls hP hS hl
  have hM : Met l y (.code y b nL2 rt :: zTB) (zRoom f2) (va_Pc (.ref (ad (off + o)) :: [a1, a2, a3]) (zW (zpt (l, D, A, ad, N, cI, cC, cS) off n2) c2)) (zQi (zpt (l, D, A, ad, N, cI, cC, cS) off n2) post) 0 0 (kA (zpt (l, D, A, ad, N, cI, cC, cS) off n2)) := hC
  have ho2 : off + o < kN (l, D, A, ad, N, cI, cC, cS) := by have : off + n2 ≤ kN (l, D, A, ad, N, cI, cC, cS) := hoN; omega
  refine va_calli (va_runV (As := [a1, a2, a3]) (rest := st) ⟨hx, hb, hml, hown, hts⟩ hM ⟨callB_of 3 hts (zgoodC hq.2.2.2.2.1) rfl rfl rfl (hts _ hq.2.2.2.1) (hts _ hq.1) hq.2.2.2.2.2 (zroom hf hn hf1 hf2), hts _ hq.2.1, hts _ hq.2.2.1⟩ ⟨zblind, hqc ▸ va_recv hK hP (ci := co) (q0 := off + o) hcl ((zwl_at ho2).trans (by rw [hct o ho, he]; rfl)), fun U hU hW => ⟨rfl, by rw [hU]; exact zpt_P hoN hct hP, va_K.moved hW.alike hK, zNest_warm hW hZ⟩⟩ rfl rfl hl.1 rfl (zcat hs) hd ⟨hc1, hc2⟩) hS (fun q _ h => zpt_A hI hoN q h) (fun q h => zpt_A hI hoN q h) ?_
  intro r u t H1 locs1 ht _ hw hB _ hk hS1
  obtain ⟨z, rfl, hp⟩ := hw
  exact k z u hp H1 locs1 ls (zmix_P hI hoN hP (by rw [← ht]; exact hB) hk) hS1 hl
theorem r_fV3v {K : zK} {X : zX} {cc : ByteArray} {own : String} {ret : Option FieldType} {nL f pc : Nat} {lo : List (Nat × Value)} {st : List Value} {ct : zE} {y : MethodName} {b : ByteArray} {nL2 f2 idx : Nat} {a1 a2 a3 : Value} {o co : Nat} {q : String × u_T × Nat} {fs : List Value} {c2 : zE} {post : zE → Prop} (off n2 : Nat) (O : zO K X cc own ret nL f) (hoN : off + n2 ≤ kN K) (hct : ∀ i, i < n2 → ct (off + i) = c2 i) (hC : zCv (zpt K off n2) y b nL2 f2 (.ref (kad K (off + o)) :: [a1, a2, a3]) c2 post) (hq : zQV own idx y b nL2 none 3) (ho : o < n2) (he : c2 o = .inr (co, fs)) (hcl : vwCl[co]? = some q) (hqc : q.1 = y.cls) (hf : f2 + 1 ≤ f) (hn : nL2 ≤ 13) (hs : (st.map fun v => v.category).sum ≤ 8) (hd : decode cc pc = .ok (.invokevirtual idx, 3)) (k : ∀ u : zE, post u → G K X nL (pc + 3) lo st (zmix off n2 u ct)) : G K X nL pc lo (a3 :: a2 :: a1 :: .ref (kad K (off + o)) :: st) ct := by
  obtain ⟨l, D, A, ad, N, cI, cC, cS⟩ := K
  obtain ⟨p, e, R, s, m, args, below, meth, c, Q, cells, slots⟩ := X
  obtain ⟨hx, hb, hr, hml, hown, hts, hlk, hK, hZ, hI, hf1, hf2, hc1, hc2⟩ := O
  intro H locs ls hP hS hl
  have hM : Met l y (.code y b nL2 none :: zTB) (zRoom f2) (va_Pc (.ref (ad (off + o)) :: [a1, a2, a3]) (zW (zpt (l, D, A, ad, N, cI, cC, cS) off n2) c2)) (zQv (zpt (l, D, A, ad, N, cI, cC, cS) off n2) post) 0 0 (kA (zpt (l, D, A, ad, N, cI, cC, cS) off n2)) := hC
  have ho2 : off + o < kN (l, D, A, ad, N, cI, cC, cS) := by have : off + n2 ≤ kN (l, D, A, ad, N, cI, cC, cS) := hoN; omega
  refine va_callv (va_runV (As := [a1, a2, a3]) (rest := st) ⟨hx, hb, hml, hown, hts⟩ hM ⟨callB_of 3 hts (zgoodC hq.2.2.2.2.1) rfl rfl rfl (hts _ hq.2.2.2.1) (hts _ hq.1) hq.2.2.2.2.2 (zroom hf hn hf1 hf2), hts _ hq.2.1, hts _ hq.2.2.1⟩ ⟨zblind, hqc ▸ va_recv hK hP (ci := co) (q0 := off + o) hcl ((zwl_at ho2).trans (by rw [hct o ho, he]; rfl)), fun U hU hW => ⟨rfl, by rw [hU]; exact zpt_P hoN hct hP, va_K.moved hW.alike hK, zNest_warm hW hZ⟩⟩ rfl rfl hl.1 rfl (zcat hs) hd ⟨hc1, hc2⟩) hS (fun q _ h => zpt_A hI hoN q h) (fun q h => zpt_A hI hoN q h) ?_
  intro u t H1 locs1 ht _ hw hB _ hk hS1
  exact k u hw H1 locs1 ls (zmix_P hI hoN hP (by rw [← ht]; exact hB) hk) hS1 hl
theorem r_fV4i {K : zK} {X : zX} {cc : ByteArray} {own : String} {ret : Option FieldType} {nL f pc : Nat} {lo : List (Nat × Value)} {st : List Value} {ct : zE} {y : MethodName} {b : ByteArray} {nL2 f2 idx : Nat} {rt : Option FieldType} {a1 a2 a3 a4 : Value} {o co : Nat} {q : String × u_T × Nat} {fs : List Value} {c2 : zE} {post : Int → zE → Prop} (off n2 : Nat) (O : zO K X cc own ret nL f) (hoN : off + n2 ≤ kN K) (hct : ∀ i, i < n2 → ct (off + i) = c2 i) (hC : zCi (zpt K off n2) y b nL2 rt f2 (.ref (kad K (off + o)) :: [a1, a2, a3, a4]) c2 post) (hq : zQV own idx y b nL2 rt 4) (ho : o < n2) (he : c2 o = .inr (co, fs)) (hcl : vwCl[co]? = some q) (hqc : q.1 = y.cls) (hf : f2 + 1 ≤ f) (hn : nL2 ≤ 13) (hs : (st.map fun v => v.category).sum ≤ 8) (hd : decode cc pc = .ok (.invokevirtual idx, 3)) (k : ∀ (z : Int) (u : zE), post z u → G K X nL (pc + 3) lo (.int (iI z) :: st) (zmix off n2 u ct)) : G K X nL pc lo (a4 :: a3 :: a2 :: a1 :: .ref (kad K (off + o)) :: st) ct := by
  obtain ⟨l, D, A, ad, N, cI, cC, cS⟩ := K
  obtain ⟨p, e, R, s, m, args, below, meth, c, Q, cells, slots⟩ := X
  obtain ⟨hx, hb, hr, hml, hown, hts, hlk, hK, hZ, hI, hf1, hf2, hc1, hc2⟩ := O
  intro H locs ls hP hS hl
  have hM : Met l y (.code y b nL2 rt :: zTB) (zRoom f2) (va_Pc (.ref (ad (off + o)) :: [a1, a2, a3, a4]) (zW (zpt (l, D, A, ad, N, cI, cC, cS) off n2) c2)) (zQi (zpt (l, D, A, ad, N, cI, cC, cS) off n2) post) 0 0 (kA (zpt (l, D, A, ad, N, cI, cC, cS) off n2)) := hC
  have ho2 : off + o < kN (l, D, A, ad, N, cI, cC, cS) := by have : off + n2 ≤ kN (l, D, A, ad, N, cI, cC, cS) := hoN; omega
  refine va_calli (va_runV (As := [a1, a2, a3, a4]) (rest := st) ⟨hx, hb, hml, hown, hts⟩ hM ⟨callB_of 4 hts (zgoodC hq.2.2.2.2.1) rfl rfl rfl (hts _ hq.2.2.2.1) (hts _ hq.1) hq.2.2.2.2.2 (zroom hf hn hf1 hf2), hts _ hq.2.1, hts _ hq.2.2.1⟩ ⟨zblind, hqc ▸ va_recv hK hP (ci := co) (q0 := off + o) hcl ((zwl_at ho2).trans (by rw [hct o ho, he]; rfl)), fun U hU hW => ⟨rfl, by rw [hU]; exact zpt_P hoN hct hP, va_K.moved hW.alike hK, zNest_warm hW hZ⟩⟩ rfl rfl hl.1 rfl (zcat hs) hd ⟨hc1, hc2⟩) hS (fun q _ h => zpt_A hI hoN q h) (fun q h => zpt_A hI hoN q h) ?_
  intro r u t H1 locs1 ht _ hw hB _ hk hS1
  obtain ⟨z, rfl, hp⟩ := hw
  exact k z u hp H1 locs1 ls (zmix_P hI hoN hP (by rw [← ht]; exact hB) hk) hS1 hl
theorem r_fV4v {K : zK} {X : zX} {cc : ByteArray} {own : String} {ret : Option FieldType} {nL f pc : Nat} {lo : List (Nat × Value)} {st : List Value} {ct : zE} {y : MethodName} {b : ByteArray} {nL2 f2 idx : Nat} {a1 a2 a3 a4 : Value} {o co : Nat} {q : String × u_T × Nat} {fs : List Value} {c2 : zE} {post : zE → Prop} (off n2 : Nat) (O : zO K X cc own ret nL f) (hoN : off + n2 ≤ kN K) (hct : ∀ i, i < n2 → ct (off + i) = c2 i) (hC : zCv (zpt K off n2) y b nL2 f2 (.ref (kad K (off + o)) :: [a1, a2, a3, a4]) c2 post) (hq : zQV own idx y b nL2 none 4) (ho : o < n2) (he : c2 o = .inr (co, fs)) (hcl : vwCl[co]? = some q) (hqc : q.1 = y.cls) (hf : f2 + 1 ≤ f) (hn : nL2 ≤ 13) (hs : (st.map fun v => v.category).sum ≤ 8) (hd : decode cc pc = .ok (.invokevirtual idx, 3)) (k : ∀ u : zE, post u → G K X nL (pc + 3) lo st (zmix off n2 u ct)) : G K X nL pc lo (a4 :: a3 :: a2 :: a1 :: .ref (kad K (off + o)) :: st) ct := by
  obtain ⟨l, D, A, ad, N, cI, cC, cS⟩ := K
  obtain ⟨p, e, R, s, m, args, below, meth, c, Q, cells, slots⟩ := X
  obtain ⟨hx, hb, hr, hml, hown, hts, hlk, hK, hZ, hI, hf1, hf2, hc1, hc2⟩ := O
  intro H locs ls hP hS hl
  have hM : Met l y (.code y b nL2 none :: zTB) (zRoom f2) (va_Pc (.ref (ad (off + o)) :: [a1, a2, a3, a4]) (zW (zpt (l, D, A, ad, N, cI, cC, cS) off n2) c2)) (zQv (zpt (l, D, A, ad, N, cI, cC, cS) off n2) post) 0 0 (kA (zpt (l, D, A, ad, N, cI, cC, cS) off n2)) := hC
  have ho2 : off + o < kN (l, D, A, ad, N, cI, cC, cS) := by have : off + n2 ≤ kN (l, D, A, ad, N, cI, cC, cS) := hoN; omega
  refine va_callv (va_runV (As := [a1, a2, a3, a4]) (rest := st) ⟨hx, hb, hml, hown, hts⟩ hM ⟨callB_of 4 hts (zgoodC hq.2.2.2.2.1) rfl rfl rfl (hts _ hq.2.2.2.1) (hts _ hq.1) hq.2.2.2.2.2 (zroom hf hn hf1 hf2), hts _ hq.2.1, hts _ hq.2.2.1⟩ ⟨zblind, hqc ▸ va_recv hK hP (ci := co) (q0 := off + o) hcl ((zwl_at ho2).trans (by rw [hct o ho, he]; rfl)), fun U hU hW => ⟨rfl, by rw [hU]; exact zpt_P hoN hct hP, va_K.moved hW.alike hK, zNest_warm hW hZ⟩⟩ rfl rfl hl.1 rfl (zcat hs) hd ⟨hc1, hc2⟩) hS (fun q _ h => zpt_A hI hoN q h) (fun q h => zpt_A hI hoN q h) ?_
  intro u t H1 locs1 ht _ hw hB _ hk hS1
  exact k u hw H1 locs1 ls (zmix_P hI hoN hP (by rw [← ht]; exact hB) hk) hS1 hl
theorem r_pV0i {K : zK} {X : zX} {cc : ByteArray} {own : String} {ret : Option FieldType} {nL f pc : Nat} {lo : List (Nat × Value)} {st : List Value} {ct : zE} {y : MethodName} {b : ByteArray} {nL2 f2 idx : Nat} {rt : Option FieldType} {o : Nat} {P : State → Prop} {post : Int → zE → Prop} (O : zO K X cc own ret nL f) (hPk : zPk K P) (hPX : P (xs X)) (hC : zCPi K y b nL2 rt f2 (.ref o :: []) ct P post) (hq : zQV own idx y b nL2 rt 0) (hrc : ∀ (H : Heap) (locs : List Loc), va_S (kA K) (xs X).heap H locs → ∃ cell : Cell, H[o]? = some cell ∧ cell.vm.isStatics = false ∧ (xs X).vm.findClass y.cls = some cell.cls) (hf : f2 + 1 ≤ f) (hn : nL2 ≤ 13) (hs : (st.map fun v => v.category).sum ≤ 8) (hd : decode cc pc = .ok (.invokevirtual idx, 3)) (k : ∀ (z : Int) (u : zE), post z u → G K X nL (pc + 3) lo (.int (iI z) :: st) u) : G K X nL pc lo (.ref o :: st) ct := by
  obtain ⟨l, D, A, ad, N, cI, cC, cS⟩ := K
  obtain ⟨p, e, R, s, m, args, below, meth, c, Q, cells, slots⟩ := X
  obtain ⟨hx, hb, hr, hml, hown, hts, hlk, hK, hZ, hI, hf1, hf2, hc1, hc2⟩ := O
  intro H locs ls hP hS hl
  exact va_calli (va_runV (As := []) (rest := st) ⟨hx, hb, hml, hown, hts⟩ hC ⟨callB_of 0 hts (zgoodC hq.2.2.2.2.1) rfl rfl rfl (hts _ hq.2.2.2.1) (hts _ hq.1) hq.2.2.2.2.2 (zroom hf hn hf1 hf2), hts _ hq.2.1, hts _ hq.2.2.1⟩ ⟨zblindP hPk, hrc H locs hS, fun U hU hW => ⟨rfl, ⟨by rw [hU]; exact hP, va_K.moved hW.alike hK, zNest_warm hW hZ⟩, hPk.2 s U H locs hPX hS hU hW⟩⟩ rfl rfl hl.1 rfl (zcat hs) hd ⟨hc1, hc2⟩) hS (fun q _ h => h) (fun q h => h) (fun r u t H1 locs1 ht _ hw hB _ _ hS1 => by
    obtain ⟨z, rfl, hp⟩ := hw
    exact k z u hp H1 locs1 ls (by rw [← ht]; exact hB) hS1 hl)
theorem r_pV0v {K : zK} {X : zX} {cc : ByteArray} {own : String} {ret : Option FieldType} {nL f pc : Nat} {lo : List (Nat × Value)} {st : List Value} {ct : zE} {y : MethodName} {b : ByteArray} {nL2 f2 idx : Nat} {o : Nat} {P : State → Prop} {post : zE → Prop} (O : zO K X cc own ret nL f) (hPk : zPk K P) (hPX : P (xs X)) (hC : zCPv K y b nL2 f2 (.ref o :: []) ct P post) (hq : zQV own idx y b nL2 none 0) (hrc : ∀ (H : Heap) (locs : List Loc), va_S (kA K) (xs X).heap H locs → ∃ cell : Cell, H[o]? = some cell ∧ cell.vm.isStatics = false ∧ (xs X).vm.findClass y.cls = some cell.cls) (hf : f2 + 1 ≤ f) (hn : nL2 ≤ 13) (hs : (st.map fun v => v.category).sum ≤ 8) (hd : decode cc pc = .ok (.invokevirtual idx, 3)) (k : ∀ u : zE, post u → G K X nL (pc + 3) lo st u) : G K X nL pc lo (.ref o :: st) ct := by
  obtain ⟨l, D, A, ad, N, cI, cC, cS⟩ := K
  obtain ⟨p, e, R, s, m, args, below, meth, c, Q, cells, slots⟩ := X
  obtain ⟨hx, hb, hr, hml, hown, hts, hlk, hK, hZ, hI, hf1, hf2, hc1, hc2⟩ := O
  intro H locs ls hP hS hl
  exact va_callv (va_runV (As := []) (rest := st) ⟨hx, hb, hml, hown, hts⟩ hC ⟨callB_of 0 hts (zgoodC hq.2.2.2.2.1) rfl rfl rfl (hts _ hq.2.2.2.1) (hts _ hq.1) hq.2.2.2.2.2 (zroom hf hn hf1 hf2), hts _ hq.2.1, hts _ hq.2.2.1⟩ ⟨zblindP hPk, hrc H locs hS, fun U hU hW => ⟨rfl, ⟨by rw [hU]; exact hP, va_K.moved hW.alike hK, zNest_warm hW hZ⟩, hPk.2 s U H locs hPX hS hU hW⟩⟩ rfl rfl hl.1 rfl (zcat hs) hd ⟨hc1, hc2⟩) hS (fun q _ h => h) (fun q h => h) (fun u t H1 locs1 ht _ hw hB _ _ hS1 => k u hw H1 locs1 ls (by rw [← ht]; exact hB) hS1 hl)
theorem r_pV1i {K : zK} {X : zX} {cc : ByteArray} {own : String} {ret : Option FieldType} {nL f pc : Nat} {lo : List (Nat × Value)} {st : List Value} {ct : zE} {y : MethodName} {b : ByteArray} {nL2 f2 idx : Nat} {rt : Option FieldType} {a1 : Value} {o : Nat} {P : State → Prop} {post : Int → zE → Prop} (O : zO K X cc own ret nL f) (hPk : zPk K P) (hPX : P (xs X)) (hC : zCPi K y b nL2 rt f2 (.ref o :: [a1]) ct P post) (hq : zQV own idx y b nL2 rt 1) (hrc : ∀ (H : Heap) (locs : List Loc), va_S (kA K) (xs X).heap H locs → ∃ cell : Cell, H[o]? = some cell ∧ cell.vm.isStatics = false ∧ (xs X).vm.findClass y.cls = some cell.cls) (hf : f2 + 1 ≤ f) (hn : nL2 ≤ 13) (hs : (st.map fun v => v.category).sum ≤ 8) (hd : decode cc pc = .ok (.invokevirtual idx, 3)) (k : ∀ (z : Int) (u : zE), post z u → G K X nL (pc + 3) lo (.int (iI z) :: st) u) : G K X nL pc lo (a1 :: .ref o :: st) ct := by
  obtain ⟨l, D, A, ad, N, cI, cC, cS⟩ := K
  obtain ⟨p, e, R, s, m, args, below, meth, c, Q, cells, slots⟩ := X
  obtain ⟨hx, hb, hr, hml, hown, hts, hlk, hK, hZ, hI, hf1, hf2, hc1, hc2⟩ := O
  intro H locs ls hP hS hl
  exact va_calli (va_runV (As := [a1]) (rest := st) ⟨hx, hb, hml, hown, hts⟩ hC ⟨callB_of 1 hts (zgoodC hq.2.2.2.2.1) rfl rfl rfl (hts _ hq.2.2.2.1) (hts _ hq.1) hq.2.2.2.2.2 (zroom hf hn hf1 hf2), hts _ hq.2.1, hts _ hq.2.2.1⟩ ⟨zblindP hPk, hrc H locs hS, fun U hU hW => ⟨rfl, ⟨by rw [hU]; exact hP, va_K.moved hW.alike hK, zNest_warm hW hZ⟩, hPk.2 s U H locs hPX hS hU hW⟩⟩ rfl rfl hl.1 rfl (zcat hs) hd ⟨hc1, hc2⟩) hS (fun q _ h => h) (fun q h => h) (fun r u t H1 locs1 ht _ hw hB _ _ hS1 => by
    obtain ⟨z, rfl, hp⟩ := hw
    exact k z u hp H1 locs1 ls (by rw [← ht]; exact hB) hS1 hl)
theorem r_pV1v {K : zK} {X : zX} {cc : ByteArray} {own : String} {ret : Option FieldType} {nL f pc : Nat} {lo : List (Nat × Value)} {st : List Value} {ct : zE} {y : MethodName} {b : ByteArray} {nL2 f2 idx : Nat} {a1 : Value} {o : Nat} {P : State → Prop} {post : zE → Prop} (O : zO K X cc own ret nL f) (hPk : zPk K P) (hPX : P (xs X)) (hC : zCPv K y b nL2 f2 (.ref o :: [a1]) ct P post) (hq : zQV own idx y b nL2 none 1) (hrc : ∀ (H : Heap) (locs : List Loc), va_S (kA K) (xs X).heap H locs → ∃ cell : Cell, H[o]? = some cell ∧ cell.vm.isStatics = false ∧ (xs X).vm.findClass y.cls = some cell.cls) (hf : f2 + 1 ≤ f) (hn : nL2 ≤ 13) (hs : (st.map fun v => v.category).sum ≤ 8) (hd : decode cc pc = .ok (.invokevirtual idx, 3)) (k : ∀ u : zE, post u → G K X nL (pc + 3) lo st u) : G K X nL pc lo (a1 :: .ref o :: st) ct := by
  obtain ⟨l, D, A, ad, N, cI, cC, cS⟩ := K
  obtain ⟨p, e, R, s, m, args, below, meth, c, Q, cells, slots⟩ := X
  obtain ⟨hx, hb, hr, hml, hown, hts, hlk, hK, hZ, hI, hf1, hf2, hc1, hc2⟩ := O
  intro H locs ls hP hS hl
  exact va_callv (va_runV (As := [a1]) (rest := st) ⟨hx, hb, hml, hown, hts⟩ hC ⟨callB_of 1 hts (zgoodC hq.2.2.2.2.1) rfl rfl rfl (hts _ hq.2.2.2.1) (hts _ hq.1) hq.2.2.2.2.2 (zroom hf hn hf1 hf2), hts _ hq.2.1, hts _ hq.2.2.1⟩ ⟨zblindP hPk, hrc H locs hS, fun U hU hW => ⟨rfl, ⟨by rw [hU]; exact hP, va_K.moved hW.alike hK, zNest_warm hW hZ⟩, hPk.2 s U H locs hPX hS hU hW⟩⟩ rfl rfl hl.1 rfl (zcat hs) hd ⟨hc1, hc2⟩) hS (fun q _ h => h) (fun q h => h) (fun u t H1 locs1 ht _ hw hB _ _ hS1 => k u hw H1 locs1 ls (by rw [← ht]; exact hB) hS1 hl)
theorem r_pV2i {K : zK} {X : zX} {cc : ByteArray} {own : String} {ret : Option FieldType} {nL f pc : Nat} {lo : List (Nat × Value)} {st : List Value} {ct : zE} {y : MethodName} {b : ByteArray} {nL2 f2 idx : Nat} {rt : Option FieldType} {a1 a2 : Value} {o : Nat} {P : State → Prop} {post : Int → zE → Prop} (O : zO K X cc own ret nL f) (hPk : zPk K P) (hPX : P (xs X)) (hC : zCPi K y b nL2 rt f2 (.ref o :: [a1, a2]) ct P post) (hq : zQV own idx y b nL2 rt 2) (hrc : ∀ (H : Heap) (locs : List Loc), va_S (kA K) (xs X).heap H locs → ∃ cell : Cell, H[o]? = some cell ∧ cell.vm.isStatics = false ∧ (xs X).vm.findClass y.cls = some cell.cls) (hf : f2 + 1 ≤ f) (hn : nL2 ≤ 13) (hs : (st.map fun v => v.category).sum ≤ 8) (hd : decode cc pc = .ok (.invokevirtual idx, 3)) (k : ∀ (z : Int) (u : zE), post z u → G K X nL (pc + 3) lo (.int (iI z) :: st) u) : G K X nL pc lo (a2 :: a1 :: .ref o :: st) ct := by
  obtain ⟨l, D, A, ad, N, cI, cC, cS⟩ := K
  obtain ⟨p, e, R, s, m, args, below, meth, c, Q, cells, slots⟩ := X
  obtain ⟨hx, hb, hr, hml, hown, hts, hlk, hK, hZ, hI, hf1, hf2, hc1, hc2⟩ := O
  intro H locs ls hP hS hl
  exact va_calli (va_runV (As := [a1, a2]) (rest := st) ⟨hx, hb, hml, hown, hts⟩ hC ⟨callB_of 2 hts (zgoodC hq.2.2.2.2.1) rfl rfl rfl (hts _ hq.2.2.2.1) (hts _ hq.1) hq.2.2.2.2.2 (zroom hf hn hf1 hf2), hts _ hq.2.1, hts _ hq.2.2.1⟩ ⟨zblindP hPk, hrc H locs hS, fun U hU hW => ⟨rfl, ⟨by rw [hU]; exact hP, va_K.moved hW.alike hK, zNest_warm hW hZ⟩, hPk.2 s U H locs hPX hS hU hW⟩⟩ rfl rfl hl.1 rfl (zcat hs) hd ⟨hc1, hc2⟩) hS (fun q _ h => h) (fun q h => h) (fun r u t H1 locs1 ht _ hw hB _ _ hS1 => by
    obtain ⟨z, rfl, hp⟩ := hw
    exact k z u hp H1 locs1 ls (by rw [← ht]; exact hB) hS1 hl)
theorem r_pV2v {K : zK} {X : zX} {cc : ByteArray} {own : String} {ret : Option FieldType} {nL f pc : Nat} {lo : List (Nat × Value)} {st : List Value} {ct : zE} {y : MethodName} {b : ByteArray} {nL2 f2 idx : Nat} {a1 a2 : Value} {o : Nat} {P : State → Prop} {post : zE → Prop} (O : zO K X cc own ret nL f) (hPk : zPk K P) (hPX : P (xs X)) (hC : zCPv K y b nL2 f2 (.ref o :: [a1, a2]) ct P post) (hq : zQV own idx y b nL2 none 2) (hrc : ∀ (H : Heap) (locs : List Loc), va_S (kA K) (xs X).heap H locs → ∃ cell : Cell, H[o]? = some cell ∧ cell.vm.isStatics = false ∧ (xs X).vm.findClass y.cls = some cell.cls) (hf : f2 + 1 ≤ f) (hn : nL2 ≤ 13) (hs : (st.map fun v => v.category).sum ≤ 8) (hd : decode cc pc = .ok (.invokevirtual idx, 3)) (k : ∀ u : zE, post u → G K X nL (pc + 3) lo st u) : G K X nL pc lo (a2 :: a1 :: .ref o :: st) ct := by
  obtain ⟨l, D, A, ad, N, cI, cC, cS⟩ := K
  obtain ⟨p, e, R, s, m, args, below, meth, c, Q, cells, slots⟩ := X
  obtain ⟨hx, hb, hr, hml, hown, hts, hlk, hK, hZ, hI, hf1, hf2, hc1, hc2⟩ := O
  intro H locs ls hP hS hl
  exact va_callv (va_runV (As := [a1, a2]) (rest := st) ⟨hx, hb, hml, hown, hts⟩ hC ⟨callB_of 2 hts (zgoodC hq.2.2.2.2.1) rfl rfl rfl (hts _ hq.2.2.2.1) (hts _ hq.1) hq.2.2.2.2.2 (zroom hf hn hf1 hf2), hts _ hq.2.1, hts _ hq.2.2.1⟩ ⟨zblindP hPk, hrc H locs hS, fun U hU hW => ⟨rfl, ⟨by rw [hU]; exact hP, va_K.moved hW.alike hK, zNest_warm hW hZ⟩, hPk.2 s U H locs hPX hS hU hW⟩⟩ rfl rfl hl.1 rfl (zcat hs) hd ⟨hc1, hc2⟩) hS (fun q _ h => h) (fun q h => h) (fun u t H1 locs1 ht _ hw hB _ _ hS1 => k u hw H1 locs1 ls (by rw [← ht]; exact hB) hS1 hl)
theorem r_pV3i {K : zK} {X : zX} {cc : ByteArray} {own : String} {ret : Option FieldType} {nL f pc : Nat} {lo : List (Nat × Value)} {st : List Value} {ct : zE} {y : MethodName} {b : ByteArray} {nL2 f2 idx : Nat} {rt : Option FieldType} {a1 a2 a3 : Value} {o : Nat} {P : State → Prop} {post : Int → zE → Prop} (O : zO K X cc own ret nL f) (hPk : zPk K P) (hPX : P (xs X)) (hC : zCPi K y b nL2 rt f2 (.ref o :: [a1, a2, a3]) ct P post) (hq : zQV own idx y b nL2 rt 3) (hrc : ∀ (H : Heap) (locs : List Loc), va_S (kA K) (xs X).heap H locs → ∃ cell : Cell, H[o]? = some cell ∧ cell.vm.isStatics = false ∧ (xs X).vm.findClass y.cls = some cell.cls) (hf : f2 + 1 ≤ f) (hn : nL2 ≤ 13) (hs : (st.map fun v => v.category).sum ≤ 8) (hd : decode cc pc = .ok (.invokevirtual idx, 3)) (k : ∀ (z : Int) (u : zE), post z u → G K X nL (pc + 3) lo (.int (iI z) :: st) u) : G K X nL pc lo (a3 :: a2 :: a1 :: .ref o :: st) ct := by
  obtain ⟨l, D, A, ad, N, cI, cC, cS⟩ := K
  obtain ⟨p, e, R, s, m, args, below, meth, c, Q, cells, slots⟩ := X
  obtain ⟨hx, hb, hr, hml, hown, hts, hlk, hK, hZ, hI, hf1, hf2, hc1, hc2⟩ := O
  intro H locs ls hP hS hl
  exact va_calli (va_runV (As := [a1, a2, a3]) (rest := st) ⟨hx, hb, hml, hown, hts⟩ hC ⟨callB_of 3 hts (zgoodC hq.2.2.2.2.1) rfl rfl rfl (hts _ hq.2.2.2.1) (hts _ hq.1) hq.2.2.2.2.2 (zroom hf hn hf1 hf2), hts _ hq.2.1, hts _ hq.2.2.1⟩ ⟨zblindP hPk, hrc H locs hS, fun U hU hW => ⟨rfl, ⟨by rw [hU]; exact hP, va_K.moved hW.alike hK, zNest_warm hW hZ⟩, hPk.2 s U H locs hPX hS hU hW⟩⟩ rfl rfl hl.1 rfl (zcat hs) hd ⟨hc1, hc2⟩) hS (fun q _ h => h) (fun q h => h) (fun r u t H1 locs1 ht _ hw hB _ _ hS1 => by
    obtain ⟨z, rfl, hp⟩ := hw
    exact k z u hp H1 locs1 ls (by rw [← ht]; exact hB) hS1 hl)
theorem r_pV3v {K : zK} {X : zX} {cc : ByteArray} {own : String} {ret : Option FieldType} {nL f pc : Nat} {lo : List (Nat × Value)} {st : List Value} {ct : zE} {y : MethodName} {b : ByteArray} {nL2 f2 idx : Nat} {a1 a2 a3 : Value} {o : Nat} {P : State → Prop} {post : zE → Prop} (O : zO K X cc own ret nL f) (hPk : zPk K P) (hPX : P (xs X)) (hC : zCPv K y b nL2 f2 (.ref o :: [a1, a2, a3]) ct P post) (hq : zQV own idx y b nL2 none 3) (hrc : ∀ (H : Heap) (locs : List Loc), va_S (kA K) (xs X).heap H locs → ∃ cell : Cell, H[o]? = some cell ∧ cell.vm.isStatics = false ∧ (xs X).vm.findClass y.cls = some cell.cls) (hf : f2 + 1 ≤ f) (hn : nL2 ≤ 13) (hs : (st.map fun v => v.category).sum ≤ 8) (hd : decode cc pc = .ok (.invokevirtual idx, 3)) (k : ∀ u : zE, post u → G K X nL (pc + 3) lo st u) : G K X nL pc lo (a3 :: a2 :: a1 :: .ref o :: st) ct := by
  obtain ⟨l, D, A, ad, N, cI, cC, cS⟩ := K
  obtain ⟨p, e, R, s, m, args, below, meth, c, Q, cells, slots⟩ := X
  obtain ⟨hx, hb, hr, hml, hown, hts, hlk, hK, hZ, hI, hf1, hf2, hc1, hc2⟩ := O
  intro H locs ls hP hS hl
  exact va_callv (va_runV (As := [a1, a2, a3]) (rest := st) ⟨hx, hb, hml, hown, hts⟩ hC ⟨callB_of 3 hts (zgoodC hq.2.2.2.2.1) rfl rfl rfl (hts _ hq.2.2.2.1) (hts _ hq.1) hq.2.2.2.2.2 (zroom hf hn hf1 hf2), hts _ hq.2.1, hts _ hq.2.2.1⟩ ⟨zblindP hPk, hrc H locs hS, fun U hU hW => ⟨rfl, ⟨by rw [hU]; exact hP, va_K.moved hW.alike hK, zNest_warm hW hZ⟩, hPk.2 s U H locs hPX hS hU hW⟩⟩ rfl rfl hl.1 rfl (zcat hs) hd ⟨hc1, hc2⟩) hS (fun q _ h => h) (fun q h => h) (fun u t H1 locs1 ht _ hw hB _ _ hS1 => k u hw H1 locs1 ls (by rw [← ht]; exact hB) hS1 hl)
theorem r_pS0i {K : zK} {X : zX} {cc : ByteArray} {own : String} {ret : Option FieldType} {nL f pc : Nat} {lo : List (Nat × Value)} {st : List Value} {ct : zE} {y : MethodName} {b : ByteArray} {nL2 f2 idx : Nat} {rt : Option FieldType} {P : State → Prop} {post : Int → zE → Prop} (O : zO K X cc own ret nL f) (hPk : zPk K P) (hPX : P (xs X)) (hC : zCPi K y b nL2 rt f2 [] ct P post) (hq : zQS own idx y b nL2 rt 0) (hf : f2 + 1 ≤ f) (hn : nL2 ≤ 13) (hs : (st.map fun v => v.category).sum ≤ 8) (hd : decode cc pc = .ok (.invokestatic idx, 3)) (k : ∀ (z : Int) (u : zE), post z u → G K X nL (pc + 3) lo (.int (iI z) :: st) u) : G K X nL pc lo (st) ct := by
  obtain ⟨l, D, A, ad, N, cI, cC, cS⟩ := K
  obtain ⟨p, e, R, s, m, args, below, meth, c, Q, cells, slots⟩ := X
  obtain ⟨hx, hb, hr, hml, hown, hts, hlk, hK, hZ, hI, hf1, hf2, hc1, hc2⟩ := O
  intro H locs ls hP hS hl
  exact va_calli (va_runS (As := []) (rest := st) ⟨hx, hb, hml, hown, hts⟩ hC ⟨callB_of 0 hts (zgoodC hq.2.2.2.1) rfl rfl rfl (hts _ hq.2.2.1) (hts _ hq.1) hq.2.2.2.2 (zroom hf hn hf1 hf2), hts _ hq.2.1⟩ ⟨zblindP hPk, fun U hU hW => ⟨rfl, ⟨by rw [hU]; exact hP, va_K.moved hW.alike hK, zNest_warm hW hZ⟩, hPk.2 s U H locs hPX hS hU hW⟩⟩ rfl rfl hl.1 rfl (zcat hs) hd ⟨hc1, hc2⟩) hS (fun q _ h => h) (fun q h => h) (fun r u t H1 locs1 ht _ hw hB _ _ hS1 => by
    obtain ⟨z, rfl, hp⟩ := hw
    exact k z u hp H1 locs1 ls (by rw [← ht]; exact hB) hS1 hl)
theorem r_pS0v {K : zK} {X : zX} {cc : ByteArray} {own : String} {ret : Option FieldType} {nL f pc : Nat} {lo : List (Nat × Value)} {st : List Value} {ct : zE} {y : MethodName} {b : ByteArray} {nL2 f2 idx : Nat} {P : State → Prop} {post : zE → Prop} (O : zO K X cc own ret nL f) (hPk : zPk K P) (hPX : P (xs X)) (hC : zCPv K y b nL2 f2 [] ct P post) (hq : zQS own idx y b nL2 none 0) (hf : f2 + 1 ≤ f) (hn : nL2 ≤ 13) (hs : (st.map fun v => v.category).sum ≤ 8) (hd : decode cc pc = .ok (.invokestatic idx, 3)) (k : ∀ u : zE, post u → G K X nL (pc + 3) lo st u) : G K X nL pc lo (st) ct := by
  obtain ⟨l, D, A, ad, N, cI, cC, cS⟩ := K
  obtain ⟨p, e, R, s, m, args, below, meth, c, Q, cells, slots⟩ := X
  obtain ⟨hx, hb, hr, hml, hown, hts, hlk, hK, hZ, hI, hf1, hf2, hc1, hc2⟩ := O
  intro H locs ls hP hS hl
  exact va_callv (va_runS (As := []) (rest := st) ⟨hx, hb, hml, hown, hts⟩ hC ⟨callB_of 0 hts (zgoodC hq.2.2.2.1) rfl rfl rfl (hts _ hq.2.2.1) (hts _ hq.1) hq.2.2.2.2 (zroom hf hn hf1 hf2), hts _ hq.2.1⟩ ⟨zblindP hPk, fun U hU hW => ⟨rfl, ⟨by rw [hU]; exact hP, va_K.moved hW.alike hK, zNest_warm hW hZ⟩, hPk.2 s U H locs hPX hS hU hW⟩⟩ rfl rfl hl.1 rfl (zcat hs) hd ⟨hc1, hc2⟩) hS (fun q _ h => h) (fun q h => h) (fun u t H1 locs1 ht _ hw hB _ _ hS1 => k u hw H1 locs1 ls (by rw [← ht]; exact hB) hS1 hl)
theorem r_pS1i {K : zK} {X : zX} {cc : ByteArray} {own : String} {ret : Option FieldType} {nL f pc : Nat} {lo : List (Nat × Value)} {st : List Value} {ct : zE} {y : MethodName} {b : ByteArray} {nL2 f2 idx : Nat} {rt : Option FieldType} {a1 : Value} {P : State → Prop} {post : Int → zE → Prop} (O : zO K X cc own ret nL f) (hPk : zPk K P) (hPX : P (xs X)) (hC : zCPi K y b nL2 rt f2 [a1] ct P post) (hq : zQS own idx y b nL2 rt 1) (hf : f2 + 1 ≤ f) (hn : nL2 ≤ 13) (hs : (st.map fun v => v.category).sum ≤ 8) (hd : decode cc pc = .ok (.invokestatic idx, 3)) (k : ∀ (z : Int) (u : zE), post z u → G K X nL (pc + 3) lo (.int (iI z) :: st) u) : G K X nL pc lo (a1 :: st) ct := by
  obtain ⟨l, D, A, ad, N, cI, cC, cS⟩ := K
  obtain ⟨p, e, R, s, m, args, below, meth, c, Q, cells, slots⟩ := X
  obtain ⟨hx, hb, hr, hml, hown, hts, hlk, hK, hZ, hI, hf1, hf2, hc1, hc2⟩ := O
  intro H locs ls hP hS hl
  exact va_calli (va_runS (As := [a1]) (rest := st) ⟨hx, hb, hml, hown, hts⟩ hC ⟨callB_of 1 hts (zgoodC hq.2.2.2.1) rfl rfl rfl (hts _ hq.2.2.1) (hts _ hq.1) hq.2.2.2.2 (zroom hf hn hf1 hf2), hts _ hq.2.1⟩ ⟨zblindP hPk, fun U hU hW => ⟨rfl, ⟨by rw [hU]; exact hP, va_K.moved hW.alike hK, zNest_warm hW hZ⟩, hPk.2 s U H locs hPX hS hU hW⟩⟩ rfl rfl hl.1 rfl (zcat hs) hd ⟨hc1, hc2⟩) hS (fun q _ h => h) (fun q h => h) (fun r u t H1 locs1 ht _ hw hB _ _ hS1 => by
    obtain ⟨z, rfl, hp⟩ := hw
    exact k z u hp H1 locs1 ls (by rw [← ht]; exact hB) hS1 hl)
theorem r_pS1v {K : zK} {X : zX} {cc : ByteArray} {own : String} {ret : Option FieldType} {nL f pc : Nat} {lo : List (Nat × Value)} {st : List Value} {ct : zE} {y : MethodName} {b : ByteArray} {nL2 f2 idx : Nat} {a1 : Value} {P : State → Prop} {post : zE → Prop} (O : zO K X cc own ret nL f) (hPk : zPk K P) (hPX : P (xs X)) (hC : zCPv K y b nL2 f2 [a1] ct P post) (hq : zQS own idx y b nL2 none 1) (hf : f2 + 1 ≤ f) (hn : nL2 ≤ 13) (hs : (st.map fun v => v.category).sum ≤ 8) (hd : decode cc pc = .ok (.invokestatic idx, 3)) (k : ∀ u : zE, post u → G K X nL (pc + 3) lo st u) : G K X nL pc lo (a1 :: st) ct := by
  obtain ⟨l, D, A, ad, N, cI, cC, cS⟩ := K
  obtain ⟨p, e, R, s, m, args, below, meth, c, Q, cells, slots⟩ := X
  obtain ⟨hx, hb, hr, hml, hown, hts, hlk, hK, hZ, hI, hf1, hf2, hc1, hc2⟩ := O
  intro H locs ls hP hS hl
  exact va_callv (va_runS (As := [a1]) (rest := st) ⟨hx, hb, hml, hown, hts⟩ hC ⟨callB_of 1 hts (zgoodC hq.2.2.2.1) rfl rfl rfl (hts _ hq.2.2.1) (hts _ hq.1) hq.2.2.2.2 (zroom hf hn hf1 hf2), hts _ hq.2.1⟩ ⟨zblindP hPk, fun U hU hW => ⟨rfl, ⟨by rw [hU]; exact hP, va_K.moved hW.alike hK, zNest_warm hW hZ⟩, hPk.2 s U H locs hPX hS hU hW⟩⟩ rfl rfl hl.1 rfl (zcat hs) hd ⟨hc1, hc2⟩) hS (fun q _ h => h) (fun q h => h) (fun u t H1 locs1 ht _ hw hB _ _ hS1 => k u hw H1 locs1 ls (by rw [← ht]; exact hB) hS1 hl)
theorem r_pS2i {K : zK} {X : zX} {cc : ByteArray} {own : String} {ret : Option FieldType} {nL f pc : Nat} {lo : List (Nat × Value)} {st : List Value} {ct : zE} {y : MethodName} {b : ByteArray} {nL2 f2 idx : Nat} {rt : Option FieldType} {a1 a2 : Value} {P : State → Prop} {post : Int → zE → Prop} (O : zO K X cc own ret nL f) (hPk : zPk K P) (hPX : P (xs X)) (hC : zCPi K y b nL2 rt f2 [a1, a2] ct P post) (hq : zQS own idx y b nL2 rt 2) (hf : f2 + 1 ≤ f) (hn : nL2 ≤ 13) (hs : (st.map fun v => v.category).sum ≤ 8) (hd : decode cc pc = .ok (.invokestatic idx, 3)) (k : ∀ (z : Int) (u : zE), post z u → G K X nL (pc + 3) lo (.int (iI z) :: st) u) : G K X nL pc lo (a2 :: a1 :: st) ct := by
  obtain ⟨l, D, A, ad, N, cI, cC, cS⟩ := K
  obtain ⟨p, e, R, s, m, args, below, meth, c, Q, cells, slots⟩ := X
  obtain ⟨hx, hb, hr, hml, hown, hts, hlk, hK, hZ, hI, hf1, hf2, hc1, hc2⟩ := O
  intro H locs ls hP hS hl
  exact va_calli (va_runS (As := [a1, a2]) (rest := st) ⟨hx, hb, hml, hown, hts⟩ hC ⟨callB_of 2 hts (zgoodC hq.2.2.2.1) rfl rfl rfl (hts _ hq.2.2.1) (hts _ hq.1) hq.2.2.2.2 (zroom hf hn hf1 hf2), hts _ hq.2.1⟩ ⟨zblindP hPk, fun U hU hW => ⟨rfl, ⟨by rw [hU]; exact hP, va_K.moved hW.alike hK, zNest_warm hW hZ⟩, hPk.2 s U H locs hPX hS hU hW⟩⟩ rfl rfl hl.1 rfl (zcat hs) hd ⟨hc1, hc2⟩) hS (fun q _ h => h) (fun q h => h) (fun r u t H1 locs1 ht _ hw hB _ _ hS1 => by
    obtain ⟨z, rfl, hp⟩ := hw
    exact k z u hp H1 locs1 ls (by rw [← ht]; exact hB) hS1 hl)
theorem r_pS2v {K : zK} {X : zX} {cc : ByteArray} {own : String} {ret : Option FieldType} {nL f pc : Nat} {lo : List (Nat × Value)} {st : List Value} {ct : zE} {y : MethodName} {b : ByteArray} {nL2 f2 idx : Nat} {a1 a2 : Value} {P : State → Prop} {post : zE → Prop} (O : zO K X cc own ret nL f) (hPk : zPk K P) (hPX : P (xs X)) (hC : zCPv K y b nL2 f2 [a1, a2] ct P post) (hq : zQS own idx y b nL2 none 2) (hf : f2 + 1 ≤ f) (hn : nL2 ≤ 13) (hs : (st.map fun v => v.category).sum ≤ 8) (hd : decode cc pc = .ok (.invokestatic idx, 3)) (k : ∀ u : zE, post u → G K X nL (pc + 3) lo st u) : G K X nL pc lo (a2 :: a1 :: st) ct := by
  obtain ⟨l, D, A, ad, N, cI, cC, cS⟩ := K
  obtain ⟨p, e, R, s, m, args, below, meth, c, Q, cells, slots⟩ := X
  obtain ⟨hx, hb, hr, hml, hown, hts, hlk, hK, hZ, hI, hf1, hf2, hc1, hc2⟩ := O
  intro H locs ls hP hS hl
  exact va_callv (va_runS (As := [a1, a2]) (rest := st) ⟨hx, hb, hml, hown, hts⟩ hC ⟨callB_of 2 hts (zgoodC hq.2.2.2.1) rfl rfl rfl (hts _ hq.2.2.1) (hts _ hq.1) hq.2.2.2.2 (zroom hf hn hf1 hf2), hts _ hq.2.1⟩ ⟨zblindP hPk, fun U hU hW => ⟨rfl, ⟨by rw [hU]; exact hP, va_K.moved hW.alike hK, zNest_warm hW hZ⟩, hPk.2 s U H locs hPX hS hU hW⟩⟩ rfl rfl hl.1 rfl (zcat hs) hd ⟨hc1, hc2⟩) hS (fun q _ h => h) (fun q h => h) (fun u t H1 locs1 ht _ hw hB _ _ hS1 => k u hw H1 locs1 ls (by rw [← ht]; exact hB) hS1 hl)
theorem r_pS3i {K : zK} {X : zX} {cc : ByteArray} {own : String} {ret : Option FieldType} {nL f pc : Nat} {lo : List (Nat × Value)} {st : List Value} {ct : zE} {y : MethodName} {b : ByteArray} {nL2 f2 idx : Nat} {rt : Option FieldType} {a1 a2 a3 : Value} {P : State → Prop} {post : Int → zE → Prop} (O : zO K X cc own ret nL f) (hPk : zPk K P) (hPX : P (xs X)) (hC : zCPi K y b nL2 rt f2 [a1, a2, a3] ct P post) (hq : zQS own idx y b nL2 rt 3) (hf : f2 + 1 ≤ f) (hn : nL2 ≤ 13) (hs : (st.map fun v => v.category).sum ≤ 8) (hd : decode cc pc = .ok (.invokestatic idx, 3)) (k : ∀ (z : Int) (u : zE), post z u → G K X nL (pc + 3) lo (.int (iI z) :: st) u) : G K X nL pc lo (a3 :: a2 :: a1 :: st) ct := by
  obtain ⟨l, D, A, ad, N, cI, cC, cS⟩ := K
  obtain ⟨p, e, R, s, m, args, below, meth, c, Q, cells, slots⟩ := X
  obtain ⟨hx, hb, hr, hml, hown, hts, hlk, hK, hZ, hI, hf1, hf2, hc1, hc2⟩ := O
  intro H locs ls hP hS hl
  exact va_calli (va_runS (As := [a1, a2, a3]) (rest := st) ⟨hx, hb, hml, hown, hts⟩ hC ⟨callB_of 3 hts (zgoodC hq.2.2.2.1) rfl rfl rfl (hts _ hq.2.2.1) (hts _ hq.1) hq.2.2.2.2 (zroom hf hn hf1 hf2), hts _ hq.2.1⟩ ⟨zblindP hPk, fun U hU hW => ⟨rfl, ⟨by rw [hU]; exact hP, va_K.moved hW.alike hK, zNest_warm hW hZ⟩, hPk.2 s U H locs hPX hS hU hW⟩⟩ rfl rfl hl.1 rfl (zcat hs) hd ⟨hc1, hc2⟩) hS (fun q _ h => h) (fun q h => h) (fun r u t H1 locs1 ht _ hw hB _ _ hS1 => by
    obtain ⟨z, rfl, hp⟩ := hw
    exact k z u hp H1 locs1 ls (by rw [← ht]; exact hB) hS1 hl)
theorem r_pS3v {K : zK} {X : zX} {cc : ByteArray} {own : String} {ret : Option FieldType} {nL f pc : Nat} {lo : List (Nat × Value)} {st : List Value} {ct : zE} {y : MethodName} {b : ByteArray} {nL2 f2 idx : Nat} {a1 a2 a3 : Value} {P : State → Prop} {post : zE → Prop} (O : zO K X cc own ret nL f) (hPk : zPk K P) (hPX : P (xs X)) (hC : zCPv K y b nL2 f2 [a1, a2, a3] ct P post) (hq : zQS own idx y b nL2 none 3) (hf : f2 + 1 ≤ f) (hn : nL2 ≤ 13) (hs : (st.map fun v => v.category).sum ≤ 8) (hd : decode cc pc = .ok (.invokestatic idx, 3)) (k : ∀ u : zE, post u → G K X nL (pc + 3) lo st u) : G K X nL pc lo (a3 :: a2 :: a1 :: st) ct := by
  obtain ⟨l, D, A, ad, N, cI, cC, cS⟩ := K
  obtain ⟨p, e, R, s, m, args, below, meth, c, Q, cells, slots⟩ := X
  obtain ⟨hx, hb, hr, hml, hown, hts, hlk, hK, hZ, hI, hf1, hf2, hc1, hc2⟩ := O
  intro H locs ls hP hS hl
  exact va_callv (va_runS (As := [a1, a2, a3]) (rest := st) ⟨hx, hb, hml, hown, hts⟩ hC ⟨callB_of 3 hts (zgoodC hq.2.2.2.1) rfl rfl rfl (hts _ hq.2.2.1) (hts _ hq.1) hq.2.2.2.2 (zroom hf hn hf1 hf2), hts _ hq.2.1⟩ ⟨zblindP hPk, fun U hU hW => ⟨rfl, ⟨by rw [hU]; exact hP, va_K.moved hW.alike hK, zNest_warm hW hZ⟩, hPk.2 s U H locs hPX hS hU hW⟩⟩ rfl rfl hl.1 rfl (zcat hs) hd ⟨hc1, hc2⟩) hS (fun q _ h => h) (fun q h => h) (fun u t H1 locs1 ht _ hw hB _ _ hS1 => k u hw H1 locs1 ls (by rw [← ht]; exact hB) hS1 hl)
theorem r_gets {K : zK} {X : zX} {cc : ByteArray} {own : String} {ret : Option FieldType} {nL f pc : Nat} {lo : List (Nat × Value)} {st : List Value} {ct : zE} {C n d : String} {v : Value} {index : Nat} (O : zO K X cc own ret nL f) (hZ0 : va_Z C n d v (kA K) (xs X) (xs X).heap) (hw : Cond.fieldLink own index C n d ∈ zTB) (hd : decode cc pc = .ok (.getstatic index, 3)) (k : G K X nL (pc + 3) lo (v :: st) ct) : G K X nL pc lo st ct := by
  obtain ⟨l, D, A, ad, N, cI, cC, cS⟩ := K
  obtain ⟨p, e, R, s, m, args, below, meth, c, Q, cells, slots⟩ := X
  obtain ⟨hx, hb, hr, hml, hown, hts, hlk, hK, hZ, hI, hf1, hf2, hc1, hc2⟩ := O
  intro H locs ls hP hS hl
  exact va_gets hx hb hZ0 hS hown (hts _ hw) (fun _ h => h) hd (k H locs ls hP hS hl)
theorem r_getO {K : zK} {X : zX} {cc : ByteArray} {own : String} {ret : Option FieldType} {nL f pc : Nat} {lo : List (Nat × Value)} {st : List Value} {ct : zE} {C n d : String} {v : Value} {q index : Nat} (O : zO K X cc own ret nL f) (hE : va_OF C n d v q (kA K) (xs X) (xs X).heap) (hw : Cond.fieldLink own index C n d ∈ zTB) (hd : decode cc pc = .ok (.getfield index, 3)) (k : G K X nL (pc + 3) lo (v :: st) ct) : G K X nL pc lo (.ref q :: st) ct := by
  obtain ⟨l, D, A, ad, N, cI, cC, cS⟩ := K
  obtain ⟨p, e, R, s, m, args, below, meth, c, Q, cells, slots⟩ := X
  obtain ⟨hx, hb, hr, hml, hown, hts, hlk, hK, hZ, hI, hf1, hf2, hc1, hc2⟩ := O
  intro H locs ls hP hS hl
  exact vk_getf hx hb hE hS hown (hts _ hw) (fun _ h => h) hd (k H locs ls hP hS hl)
theorem r_tlen {K : zK} {X : zX} {cc : ByteArray} {own : String} {ret : Option FieldType} {nL f pc : Nat} {lo : List (Nat × Value)} {st : List Value} {ct : zE} {ty : FieldType} {t n : Nat} {g : Nat → Value} {z : Int} (O : zO K X cc own ret nL f) (hT : va_T ty t n g (kA K) (xs X) (xs X).heap) (hz : Int32.ofNat n = iI z) (hd : decode cc pc = .ok (.arraylength, 1)) (k : G K X nL (pc + 1) lo (.int (iI z) :: st) ct) : G K X nL pc lo (.ref t :: st) ct := by
  obtain ⟨l, D, A, ad, N, cI, cC, cS⟩ := K
  obtain ⟨p, e, R, s, m, args, below, meth, c, Q, cells, slots⟩ := X
  obtain ⟨hx, hb, hr, hml, hown, hts, hlk, hK, hZ, hI, hf1, hf2, hc1, hc2⟩ := O
  intro H locs ls hP hS hl
  exact va_tlen hx hb hT hS hz hd (k H locs ls hP hS hl)
theorem r_tb {K : zK} {X : zX} {cc : ByteArray} {own : String} {ret : Option FieldType} {nL f pc : Nat} {lo : List (Nat × Value)} {st : List Value} {ct : zE} {t n : Nat} {g : Nat → Value} {i : Int32} {v : Value} (O : zO K X cc own ret nL f) (hT : va_T .byte t n g (kA K) (xs X) (xs X).heap) (hin : vp_in i n) (hv : g i.toNatClampNeg = v) (hd : decode cc pc = .ok (.baload, 1)) (k : G K X nL (pc + 1) lo (v :: st) ct) : G K X nL pc lo (.int i :: .ref t :: st) ct := by
  obtain ⟨l, D, A, ad, N, cI, cC, cS⟩ := K
  obtain ⟨p, e, R, s, m, args, below, meth, c, Q, cells, slots⟩ := X
  obtain ⟨hx, hb, hr, hml, hown, hts, hlk, hK, hZ, hI, hf1, hf2, hc1, hc2⟩ := O
  intro H locs ls hP hS hl
  exact va_tb hx hb hT hS hin hv hd (k H locs ls hP hS hl)
theorem r_ldcS {K : zK} {X : zX} {cc : ByteArray} {own : String} {ret : Option FieldType} {nL f pc : Nat} {lo : List (Nat × Value)} {st : List Value} {ct : zE} {tx : String} {index q : Nat} (O : zO K X cc own ret nL f) (hR : vk_R own index tx q (xs X)) (hd : decode cc pc = .ok (.ldc index, 2)) (k : G K X nL (pc + 2) lo (.ref q :: st) ct) : G K X nL pc lo st ct := by
  obtain ⟨l, D, A, ad, N, cI, cC, cS⟩ := K
  obtain ⟨p, e, R, s, m, args, below, meth, c, Q, cells, slots⟩ := X
  obtain ⟨hx, hb, hr, hml, hown, hts, hlk, hK, hZ, hI, hf1, hf2, hc1, hc2⟩ := O
  intro H locs ls hP hS hl
  exact va_ldcS hx hb hown hR hd (k H locs ls hP hS hl)
