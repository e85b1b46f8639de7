def R_law : String := "SpoonVotesLaw"
def lw_P (b : Addr) (xs : List Int32) (args : Array Value) (s : State) : Prop := args = #[.ref b] ∧ s.IntsAt b xs ∧ xs.length ≤ 2048 ∧ (Jvm.Cond.and given_1 narrow_1).before args s = true
def lw_Q (_ : Array Value) (s : State) (o : Outcome) (t : State) : Prop := o = .returned (some (.int 1)) ∧ Framed s o t [] 600000 7302250
def lw_Z (below : List Frame) (a : Array Value) (s : State) : State → Prop := fun t => ∃ o, t.status = .running ∧ Ended t below o ∧ lw_Q a s o t
/-- the law's own end, with 1 on the stack, nothing written that was there before, its room as the claim has it -/
theorem lw_ret {p : Program} {l : Launch} {e : Env} {s : State} {m : MethodId} {below : List Frame} {meth : Method} {c : Code} {b : Nat} (hx : p.tables.exec = Jvm.exec) (hb : c.code = code) (hr : meth.sig.returnType = ret) (hlocks : meth.locks = false) {pc : Nat} {H : Heap} {ls : Array Slot} (hdg : decode code pc = .ok (.ireturn, 1)) : W p l e room_1 s m #[Value.ref b] below meth c H [] 600000 7302250 (lw_Z below #[Value.ref b] s) (F0 m pc ls [.int 1]) := by
  intro T hT X
  obtain ⟨fs, hret, hrun, hended, hW, hframe⟩ := X.leave (v := some (.int 1)) (hlocks := hlocks) (fun h => by rw [hr] at h; cases h)
  have hmeth' : T.vm.method? m = some meth := X.method'
  refine ⟨T.setFrames fs, ?_, .returned (some (.int 1)), hrun, hended, rfl, ⟨_, rfl⟩, hW, hframe⟩
  jvm_step X.here [X.here.top, hx, hb, hdg, hmeth', hr, ret, narrow_b1]
  (try refine ⟨rfl, ?_⟩); (try refine ⟨rfl, ?_⟩)
  first | (intro acts; rw [hret _ acts rfl rfl rfl]) | rw [hret _ _ rfl rfl rfl]
  exact Steps.refl _
/-- what holds at the law's entry: the machine, the code, the tables' words (any of lw_tbl by 'hts w (by decide +kernel)'), the script of L ints xs at the cell b, what the Statement gives of the start (any of its parts by flat_of_before) -/
def lw_At (p : Program) (s : State) (m : MethodId) (meth : Method) (c : Code) (b L : Nat) (xs : Nat → Int32) : Prop :=
  p.tables.exec = Jvm.exec ∧ c.code = code ∧ meth.sig.returnType = ret ∧ c.maxLocals = 4 ∧ s.vm.findClass R_law = some m.cls ∧ (∀ w ∈ lw_tbl, w.before #[Value.ref b] s = true) ∧ va_X b L xs s s.heap ∧ b < s.heap.size ∧ meth.locks = false ∧ (Jvm.Cond.and given_1 narrow_1).before #[Value.ref b] s = true

/-! FROM THE LAW'S ENTRY TO ITS LOOP -/
theorem layC_same {K K2 : zK} {c : CS} (hc : okC c) (h : ∀ i : Nat, i < 85 → kad K i = kad K2 i) (eI : kI K = kI K2) (eC : kC K = kC K2) (eS : kS K = kS K2) (k : Nat) (hk : k < 85) : zSame (layC K c k) (layC K2 c k) := by
  obtain ⟨o1, o2, o3, o4, o5, o6⟩ := hc
  by_cases hs : k < 13
  · match k, hs with
    | 0, _ =>
      refine Or.inl ?_
      show (Sum.inr (5, [.ref (kad K 1), .ref (kad K 13), .ref (kad K 19), .ref (kad K 4), .ref (kad K 6), .ref (kad K 9), .ref (kad K 11)]) : va_E) = .inr (5, [.ref (kad K2 1), .ref (kad K2 13), .ref (kad K2 19), .ref (kad K2 4), .ref (kad K2 6), .ref (kad K2 9), .ref (kad K2 11)])
      rw [h 1 (by omega), h 13 (by omega), h 19 (by omega), h 4 (by omega), h 6 (by omega), h 9 (by omega), h 11 (by omega)]
    | 1, _ =>
      refine Or.inl ?_
      show (Sum.inr (4, [.ref (kad K 2), .ref (kad K 3), .int (iI c.2.1.2.2)]) : va_E) = .inr (4, [.ref (kad K2 2), .ref (kad K2 3), .int (iI c.2.1.2.2)])
      rw [h 2 (by omega), h 3 (by omega)]
    | 2, _ =>
      refine Or.inl ?_
      show (Sum.inl (kC K, 200, .inl (aI c.2.1.1)) : va_E) = .inl (kC K2, 200, .inl (aI c.2.1.1))
      rw [eC]
    | 3, _ =>
      refine Or.inl ?_
      show (Sum.inl (kI K, 4, .inl (aI c.2.1.2.1)) : va_E) = .inl (kI K2, 4, .inl (aI c.2.1.2.1))
      rw [eI]
    | 4, _ =>
      refine Or.inl ?_
      show (Sum.inr (1, [.ref (kad K 5), .int (iI c.2.2.1.2.1), .int (iI c.2.2.1.2.2)]) : va_E) = .inr (1, [.ref (kad K2 5), .int (iI c.2.2.1.2.1), .int (iI c.2.2.1.2.2)])
      rw [h 5 (by omega)]
    | 5, _ =>
      refine Or.inl ?_
      show (Sum.inl (kI K, 7, .inl (aI c.2.2.1.1)) : va_E) = .inl (kI K2, 7, .inl (aI c.2.2.1.1))
      rw [eI]
    | 6, _ =>
      refine Or.inl ?_
      show (Sum.inr (2, [.ref (kad K 7), .ref (kad K 8), .int (iI c.2.2.2.1.2.2)]) : va_E) = .inr (2, [.ref (kad K2 7), .ref (kad K2 8), .int (iI c.2.2.2.1.2.2)])
      rw [h 7 (by omega), h 8 (by omega)]
    | 7, _ =>
      refine Or.inl ?_
      show (Sum.inl (kI K, 6, .inl (aI c.2.2.2.1.1)) : va_E) = .inl (kI K2, 6, .inl (aI c.2.2.2.1.1))
      rw [eI]
    | 8, _ =>
      refine Or.inl ?_
      show (Sum.inl (kI K, 6, .inl (aI c.2.2.2.1.2.1)) : va_E) = .inl (kI K2, 6, .inl (aI c.2.2.2.1.2.1))
      rw [eI]
    | 9, _ =>
      refine Or.inl ?_
      show (Sum.inr (0, [.ref (kad K 10), .int (iI c.2.2.2.2.1.2)]) : va_E) = .inr (0, [.ref (kad K2 10), .int (iI c.2.2.2.2.1.2)])
      rw [h 10 (by omega)]
    | 10, _ =>
      refine Or.inr ⟨kS K, 8, rI K (pileC c.2.2.2.2.1.1), rI K2 (pileC c.2.2.2.2.1.1), rfl, ?_, fun q hq => ?_⟩
      · show (Sum.inl (kS K2, 8, .inr (.inr (.inr (.inr (rI K2 (pileC c.2.2.2.2.1.1)))))) : va_E) = _
        rw [eS]
      · have h9 := o5.2.1 (q : Int) (by omega) (by omega)
        show some (kad K (6 * c.2.2.2.2.1.1 (q : Int) + 13)) = some (kad K2 (6 * c.2.2.2.2.1.1 (q : Int) + 13))
        rw [h _ (by omega)]
    | 11, _ =>
      refine Or.inl ?_
      show (Sum.inr (0, [.ref (kad K 12), .int (iI c.2.2.2.2.2.2)]) : va_E) = .inr (0, [.ref (kad K2 12), .int (iI c.2.2.2.2.2.2)])
      rw [h 12 (by omega)]
    | 12, _ =>
      refine Or.inr ⟨kS K, 2, rI K (pileC c.2.2.2.2.2.1), rI K2 (pileC c.2.2.2.2.2.1), rfl, ?_, fun q hq => ?_⟩
      · show (Sum.inl (kS K2, 2, .inr (.inr (.inr (.inr (rI K2 (pileC c.2.2.2.2.2.1)))))) : va_E) = _
        rw [eS]
      · have h9 := o6.2.1 (q : Int) (by omega) (by omega)
        show some (kad K (6 * c.2.2.2.2.2.1 (q : Int) + 13)) = some (kad K2 (6 * c.2.2.2.2.2.1 (q : Int) + 13))
        rw [h _ (by omega)]
  · obtain ⟨k, rfl⟩ : ∃ k2 : Nat, k = k2 + 13 := ⟨k - 13, by omega⟩
    refine Or.inl ?_
    rw [lay_k, lay_k]
    have hj : 6 * (k / 6) + 18 < 85 := by omega
    generalize k / 6 = j at hj
    unfold sitE
    generalize k % 6 = a
    match a with
    | 0 =>
      simp only []
      rw [h (6 * j + 14) (by omega), h (6 * j + 15) (by omega), h (6 * j + 16) (by omega), h (6 * j + 17) (by omega), h (6 * j + 18) (by omega)]
    | 1 => simp only [eI]
    | 2 => simp only [eI]
    | 3 => simp only [eI]
    | 4 => simp only [eI]
    | _ + 5 => simp only [eI]
theorem layM_same {K K2 : zK} (tx : Int → Int) (ty : Int) (td dr bg ss pa : Int → Int) (kn : Int) (im : Int → Int) (kp : Int) (ns : Int → Int) (nd ap la : Int) (hh tt : Int → Int) (h : ∀ i : Nat, i < 11 → kad K i = kad K2 i) (eI : kI K = kI K2) (k : Nat) : layM K tx ty td dr bg ss pa kn im kp ns nd ap la hh tt k = layM K2 tx ty td dr bg ss pa kn im kp ns nd ap la hh tt k := by
  unfold layM
  match k with
  | 0 => simp only [h 1 (by omega), h 2 (by omega), h 3 (by omega), h 4 (by omega), h 5 (by omega), h 6 (by omega), h 7 (by omega), h 8 (by omega), h 9 (by omega), h 10 (by omega)]
  | 1 => simp only [eI]
  | 2 => simp only [eI]
  | 3 => simp only [eI]
  | 4 => simp only [eI]
  | 5 => simp only [eI]
  | 6 => simp only [eI]
  | 7 => simp only [eI]
  | 8 => simp only [eI]
  | 9 => simp only [eI]
  | _ + 10 => simp only [eI]
theorem r_callI0 {K : zK} {X : zX} {cc : ByteArray} {own : String} {ret : Option FieldType} {nL f pc : Nat} {lo : List (Nat × Value)} {st : List Value} {ct : zE} {y : MethodName} {b : ByteArray} {nL2 f2 mc ms idx a : Nat} {P : State → Prop} {post : List Nat → zE → Prop} (O : zO K X cc own ret nL f) (hA : ∀ q, (xs X).heap.size ≤ q → kA K q) (hC : zN K y b nL2 f2 mc ms (.ref a :: []) ct P post) (hbl : ∀ (a : Array Value) (U : State) (g : JFrame) (mk : MethodId), P U → P (U.calling g mk a)) (hPt : ∀ (U : State) (H : Heap) (locs : List Loc), va_S (kA K) (xs X).heap H locs → U.heap = H → (xs X).WarmedH U.vm → P U) (hlk2 : Cond.methodLink own idx y ∈ zTB) (hi : Cond.instanceMethod y ∈ zTB) (hin : Cond.initialized y.cls ∈ zTB) (hcode : Cond.code y b nL2 none ∈ zTB) (hds : zDs y 0) (hyn : y.name = "<init>") (hf : f2 + 1 ≤ f) (hn : nL2 ≤ 13) (hs : (st.map fun v => v.category).sum ≤ 8) (hc : xc X + mc ≤ (xR X).cells) (hm : xn X + ms ≤ (xR X).slots) (hd : decode cc pc = .ok (.invokespecial idx, 3)) (k : ∀ (L : List Nat) (u : zE), post L u → zO (zx K L) (zXg X mc ms) cc own ret nL f → G (zx K L) (zXg X mc ms) nL (pc + 3) lo st u) : G K X nL pc lo (.ref a :: st) ct := by
  have O1 := O
  obtain ⟨l, D, A, ad, N, cI, cC, cS⟩ := K
  obtain ⟨p, e, R, s, m, args, below, meth, c, Q, cells, slots⟩ := X
  obtain ⟨hx, hb, hr, hml, hown, hts, hlk, hK, hZ, hI, hf1, hf2, hc1, hc2⟩ := O
  intro H locs ls hP hS hl
  exact va_callv (va_runI (As := []) (rest := st) ⟨hx, hb, hml, hown, hts⟩ hC ⟨callB_of 0 hts (zgoodC hcode) rfl rfl rfl (hts _ hin) (hts _ hlk2) hds (zroomN hf hn hf1 hf2), hyn, hts _ hi⟩ ⟨zblindN hbl, fun U hU hW => ⟨rfl, ⟨by rw [hU]; exact hP, va_K.moved hW.alike hK, zNest_warm hW hZ⟩, by rw [hU]; exact fun q h => hA q (Nat.le_trans hS.1 h), hPt U H locs hS hU hW⟩⟩ rfl rfl hl.1 rfl (zcat hs) hd ⟨hc, hm⟩) hS (fun q _ h => h) (fun q h => h) (fun u t H1 locs1 ht _ hw hB _ _ hS1 => k u.1 u.2 hw.1 (zO_grow O1 rfl rfl hw.2 hc hm) H1 locs1 ls (by rw [← ht]; exact hB) hS1 hl)
/-- what the Statement gives of the constant -/
theorem js_at {s : State} {b : Nat} {A : Nat → Prop} (hgv : (Jvm.Cond.and given_1 narrow_1).before #[Value.ref b] s = true) (hA : ∀ a : Nat, a < s.heap.size → ¬ A a) : ∃ aK aV : Nat, vk_S 1 [62] [jsB] (fun _ => aK) (fun _ => aV) A s s.heap ∧ (Term.string "SpoonVotes" 52).eval #[Value.ref b] s none [] s = some (.ref aK) := by
  have hs := flat_of_before _ hgv
  have q1 : (Cond.exactly (Term.string "SpoonVotes" 52) "java/lang/String").before #[Value.ref b] s = true := hs _ (by decide +kernel)
  have q2 : (Cond.eq (.field (Term.string "SpoonVotes" 52) "java/lang/String" "coder" "B") (.int 0)).before #[Value.ref b] s = true := hs _ (by decide +kernel)
  have q3 : (Cond.arrayOf (.field (Term.string "SpoonVotes" 52) "java/lang/String" "value" "[B") .byte).before #[Value.ref b] s = true := hs _ (by decide +kernel)
  have q4 : (Cond.eq (.length (.field (Term.string "SpoonVotes" 52) "java/lang/String" "value" "[B")) (.int (Int32.ofNat 62))).before #[Value.ref b] s = true := hs _ (by decide +kernel)
  have q5 : ∀ j : Nat, j < 62 → (Cond.eq (.elem (.field (Term.string "SpoonVotes" 52) "java/lang/String" "value" "[B") (.int (Int32.ofNat j))) (.int (jsB.getD j 0))).before #[Value.ref b] s = true := fun j hj => hs _ ((by decide +kernel : ∀ j : Nat, j < 62 → Cond.eq (.elem (.field (Term.string "SpoonVotes" 52) "java/lang/String" "value" "[B") (.int (Int32.ofNat j))) (.int (jsB.getD j 0)) ∈ flatC (Jvm.Cond.and given_1 narrow_1)) j hj)
  have z : ∀ i : Nat, i < 1 → i = 0 := fun i hi => by omega
  obtain ⟨adK, adV, h1, h2⟩ := vk_Sof (args := #[Value.ref b]) (s := s) (N := 1) (tm := fun _ => Term.string "SpoonVotes" 52) (len := [62]) (byt := [jsB]) (A := A) (fun i hi => by rw [z i hi]; decide) (fun i _ => q1) (fun i _ => q2) (fun i _ => q3) (fun i hi => by rw [z i hi]; exact q4) (fun i hi j hj => by
    rw [z i hi] at hj ⊢
    exact q5 j hj) (fun i j hi hj hij => absurd ((z i hi).trans (z j hj).symm) hij) hA
  refine ⟨adK 0, adV 0, ⟨fun i hi => ?_, fun i j hi hj _ => (z i hi).trans (z j hj).symm⟩, h2 0 (by decide)⟩
  have h9 := h1.1 0 (by decide)
  rw [z i hi]
  exact h9
set_option maxHeartbeats 8000000 in
theorem whole_start {p : Program} {e : Env} {s : State} {m : MethodId} {below : List Frame} {meth : Method} {c : Code} (l : Launch) (hflags : l.flags = flags0) {b L : Nat} {xs : Nat → Int32} (hL : L ≤ 2048) (C0 : lw_At p s m meth c b L xs) : W p l e room_1 s m #[Value.ref b] below meth c s.heap [] 0 0 (lw_Z below #[Value.ref b] s) (entryFrame m ([Value.ref b] : List Value).toArray 4) := by
  obtain ⟨hx, hb, hr, hml, hown, hts, hX, hbl, hlocks, hgv⟩ := C0
  have htz : ∀ w ∈ zTB, w.before #[Value.ref b] s = true := fun w hw => hts w (zTB_in w hw)
  have hAn : ∀ a : Nat, a < s.heap.size → ¬ (fun q : Nat => s.heap.size ≤ q) a := fun a ha => Nat.not_le.mpr ha
  obtain ⟨c0, iS0, hKn0⟩ := u_known (C := RX0) (T := TX0) (N := 2) (n := 2) htz inX0 (htz _ zns_X0)
  obtain ⟨c1, iS1, hKn1⟩ := u_known (C := RX1) (T := TX1) (N := 3) (n := 3) htz inX1 (htz _ zns_X1)
  obtain ⟨c2, iS2, hKn2⟩ := u_known (C := RX2) (T := TX2) (N := 3) (n := 3) htz inX2 (htz _ zns_X2)
  obtain ⟨c3, iS3, hKn3⟩ := u_known (C := RX3) (T := TX3) (N := 11) (n := 11) htz inX3 (htz _ zns_X3)
  obtain ⟨c4, iS4, hKn4⟩ := u_known (C := RX4) (T := TX4) (N := 3) (n := 3) htz inX4 (htz _ zns_X4)
  obtain ⟨c5, iS5, hKn5⟩ := u_known (C := RX5) (T := TX5) (N := 7) (n := 7) htz inX5 (htz _ zns_X5)
  obtain ⟨c6, iS6, hKn6⟩ := u_known (C := RX6) (T := TX6) (N := 16) (n := 16) htz inX6 (htz _ zns_X6)
  obtain ⟨dC, dI, hKc⟩ : ∃ (dC : Nat → ClassId) (dI : Nat → Nat → Nat), ∀ (k : Nat) (q : vw_C), vwCl[k]? = some q → u_Kn s q.1 q.2.1 q.2.2 (dC k) (dI k) := by
    refine ⟨fun k => match k with | 0 => c0 | 1 => c1 | 2 => c2 | 3 => c3 | 4 => c4 | 5 => c5 | _ => c6, fun k => match k with | 0 => iS0 | 1 => iS1 | 2 => iS2 | 3 => iS3 | 4 => iS4 | 5 => iS5 | _ => iS6, ?_⟩
    intro k q hq
    match k, hq with
    | 0, hq => cases hq; exact hKn0
    | 1, hq => cases hq; exact hKn1
    | 2, hq => cases hq; exact hKn2
    | 3, hq => cases hq; exact hKn3
    | 4, hq => cases hq; exact hKn4
    | 5, hq => cases hq; exact hKn5
    | 6, hq => cases hq; exact hKn6
    | k + 7, hq => simp [vwCl] at hq
  obtain ⟨cI, kI1, cp1, a1, a2, a3⟩ := Cond.arrayClass_spec (htz _ zar_int)
  obtain ⟨cC, kC1, cp2, b1, b2, b3⟩ := Cond.arrayClass_spec (htz _ zar_char)
  have hAO : va_AO RX3 s := va_AO.of (hts _ (zmem1 (List.mem_of_getElem? (i := 138) rfl)))
  obtain ⟨cp3, cS, kS1, d1, d2, d3, d4, d5⟩ := Cond.arrayOver_spec (va_AO.use (A := #[Value.ref b]) hAO)
  have hZ : zNest s := ⟨va_Nw.of rfl (hts _ (zmem2 (List.mem_of_getElem? (i := 0) rfl))), va_Nw.of rfl (hts _ (zmem2 (List.mem_of_getElem? (i := 176) rfl))), va_Nw.of rfl (hts _ (zmem3 (List.mem_of_getElem? (i := 47) rfl)))⟩
  obtain ⟨aK, aV, hv1, hv2⟩ := js_at (A := fun q : Nat => s.heap.size ≤ q) hgv hAn
  have hfl := flat_of_before _ hgv
  have hP5a : va_Z "java/lang/String" "COMPACT_STRINGS" "Z" (.int (iI 1)) (fun q : Nat => s.heap.size ≤ q) s s.heap := va_Zof (args := #[Value.ref b]) (hts _ (zmem1 (List.mem_of_getElem? (i := 158) rfl))) (hts _ (zmem1 (List.mem_of_getElem? (i := 8) rfl))) (va_eqi (z := iI 1) (hfl _ (by decide +kernel))) hAn
  have hP5b : va_Zq "jdk/internal/util/Preconditions" "SIOOBE_FORMATTER" "Ljava/util/function/BiFunction;" (fun q : Nat => s.heap.size ≤ q) s s.heap := va_Zqof (args := #[Value.ref b]) (hts _ (zmem1 (List.mem_of_getElem? (i := 174) rfl))) (hts _ (zmem1 (List.mem_of_getElem? (i := 10) rfl))) (hfl _ (by decide +kernel)) hAn
  have hP5c : vk_R RX5 52 jsX aK s := vk_R.of (hts _ (zmem1 (List.mem_of_getElem? (i := 148) rfl))) hv2
  have hP5d : jsP0 s := ⟨va_Nw.of rfl (hts _ (zmem1 (List.mem_of_getElem? (i := 139) rfl))), hAO⟩
  have hN4 : va_Nw (.methodLinkNest RX5 9 yX4_init RX5) s := va_Nw.of rfl (hts _ (zmem1 (List.mem_of_getElem? (i := 25) rfl)))
  have hN3 : va_Nw (.methodLinkNest RX5 18 yX3_init RX5) s := va_Nw.of rfl (hts _ (zmem1 (List.mem_of_getElem? (i := 44) rfl)))
  have hN1 : va_Nw (.methodLinkNest RX5 28 yX1_init RX5) s := va_Nw.of rfl (hts _ (zmem1 (List.mem_of_getElem? (i := 97) rfl)))
  have hN2 : va_Nw (.methodLinkNest RX5 35 yX2_init RX5) s := va_Nw.of rfl (hts _ (zmem1 (List.mem_of_getElem? (i := 113) rfl)))
  have hK : va_K (dC, dI) vwCl [(cI, .int), (cC, .char), (cS, .object RX3)] s := by
    refine ⟨hKc, fun k q hq => ?_⟩
    match k, hq with
    | 0, hq => cases hq; exact ⟨fun n z => ⟨(fun k h => by cases h), kI1, a2, cp1, a3⟩, a1⟩
    | 1, hq => cases hq; exact ⟨fun n z => ⟨(fun k h => by cases h), kC1, b2, cp2, b3⟩, b1⟩
    | 2, hq => cases hq; exact ⟨fun n z => ⟨(fun k h => by cases h), kS1, d3, cp3, d4⟩, kS1, cp3, d3, d4, d1, d5⟩
    | k + 3, hq => simp at hq
  obtain ⟨K0, hK0⟩ : ∃ K0 : zK, K0 = (l, (dC, dI), (fun q : Nat => s.heap.size ≤ q), (fun _ => 0), 0, cI, cC, cS) := ⟨_, rfl⟩
  obtain ⟨X0, hX0⟩ : ∃ X0 : zX, X0 = (p, e, room_1, s, m, #[Value.ref b], below, meth, c, lw_Z below #[Value.ref b] s, 0, 0) := ⟨_, rfl⟩
  have hA : ∀ q, X0.2.2.2.1.heap.size ≤ q → kA K0 q := by
    rw [hK0, hX0]
    exact fun q h => h
  have O0 : zO K0 X0 cL_law RL ret 4 6 := by
    rw [hK0, hX0]
    exact ⟨hx, hb, hr, hml, hown, htz, hlocks, hK, hZ, ⟨fun i j hi => absurd hi (Nat.not_lt_zero _), fun i hi => absurd hi (Nat.not_lt_zero _)⟩, Nat.le_of_ble_eq_true rfl, Nat.le_of_ble_eq_true rfl, Nat.zero_le _, Nat.zero_le _⟩
  have hJ : ∀ M : List Nat, ∀ a n : Nat, jS (zx K0 M) (zXg X0 a n) b L xs := by
    rw [hK0, hX0]
    exact fun M a n => ⟨hX, hbl, hAn b hbl, hL⟩
  have hP5 : ∀ M : List Nat, ∀ a n : Nat, jsP5 (zx K0 M) aK aV (zXg X0 a n).2.2.2.1 := by
    rw [hK0, hX0]
    exact fun M a n => ⟨⟨hv1, hP5a, hP5b, hP5c⟩, hP5d, hN4, hN3, hN1, hN2⟩
  have hRm : (xR X0).cells = 600000 ∧ (xR X0).slots = 7302250 := by
    rw [hX0]
    exact ⟨rfl, rfl⟩
  have hX00 : xc X0 = 0 ∧ xn X0 = 0 := by
    rw [hX0]
    exact ⟨rfl, rfl⟩
  have hkN : kN K0 = 0 := by rw [hK0]; rfl
  have hE : ∀ (M : List Nat) (a n : Nat), a ≤ 600000 → n ≤ 7302250 → ∀ (lo : List (Nat × Value)) (ct : zE), G (zx K0 M) (zXg X0 a n) 4 765 lo [.int (iI 1)] ct := by
    rw [hK0, hX0]
    intro M a n ha hn lo ct H locs ls hP hS hl
    refine va_forget (fun q hq => hS.2.2 q hq) ?_
    refine W.widen (k := 600000) (n := 7302250) (by show 0 + a ≤ 600000; omega) (by show 0 + n ≤ 7302250; omega) ?_
    exact lw_ret hx hb hr hlocks dL_law_765
  have main : G K0 X0 4 0 [(0, .ref b)] [] (fun _ => z0 0 0) := by
    clear hK hKc hKn0 hKn1 hKn2 hKn3 hKn4 hKn5 hKn6 hv1 hP5a hP5b hP5c hP5d hN4 hN3 hN1 hN2 hZ hAO d1 d2 d3 d4 d5 a1 a2 a3 b1 b2 b3 hK0 hX0 hts htz hfl hgv hX
    refine r_new (ci := 5) (fs := [.null, .null, .null, .null, .null, .null, .null]) O0 hA zCl5 zcl_L_7 zns_X5 zin_X5 tyX5_ok (by decide +kernel) (by omega) (by omega) dL_law_0 (fun q0 O1 => ?_)
    refine r_dup O1 rfl dL_law_3 ?_
    have k1 : kN (zx K0 [q0]) = 1 := by rw [kN_zx, hkN]; rfl
    have kq : kad (zx K0 [q0]) 0 = q0 := by
      rw [zx_new (by omega), hkN]
      rfl
    have hC := I_X5_init (zO_I O1) k1 (zup (fun _ => z0 0 0) (kN K0) (.inr (5, [.null, .null, .null, .null, .null, .null, .null]))) (by rw [hkN]; exact zup_s _ _ _) aK aV
    rw [kq] at hC
    refine r_callI0 O1 hA hC (jsP5_pk (zx K0 [q0]) aK aV).1 (fun U H locs hS hU hW => (jsP5_pk (zx K0 [q0]) aK aV).2 _ U H locs (hP5 [q0] 1 7) hS hU hW) ql_L_9 zi_X5_init zin_X5 zc_X5_init ⟨by decide +kernel, by decide +kernel, by decide +kernel⟩ rfl (by decide) (by decide) (Nat.le_of_ble_eq_true rfl) (by show xc X0 + 1 + 84 ≤ (xR X0).cells; omega) (by show xn X0 + 7 + 798 ≤ (xR X0).slots; omega) dL_law_4 (fun M u hu O2 => ?_)
    obtain ⟨hM, cs, hok, hI5, rfl⟩ := hu
    rw [zx_app, zXg_app] at O2
    refine G_cast (zx_app K0 [q0] M) (zXg_app X0 1 7 84 798) ?_
    have k2 : kN (zx K0 ([q0] ++ M)) = 85 := by rw [kN_zx, hkN, List.length_append, hM]; rfl
    have kq2 : kad (zx K0 ([q0] ++ M)) 0 = q0 := by
      rw [← zx_app, zx_old (by omega)]
      exact kq
    rw [zx_app]
    generalize [q0] ++ M = M2 at *
    refine n_astore_n O2 dL_law_7 (by decide) rfl ?_
    refine r_new (ci := 6) (fs := [.null, .int (iI 0), .null, .null, .null, .null, .null, .int (iI 0), .null, .int (iI 0), .null, .int (iI 0), .int (iI 0), .int (iI 0), .null, .null]) O2 hA zCl6 zcl_L_10 zns_X6 zin_X6 tyX6_ok (by decide +kernel) (by show xc X0 + (1 + 84) + 1 ≤ (xR X0).cells; omega) (by show xn X0 + (7 + 798) + 16 ≤ (xR X0).slots; omega) dL_law_8 (fun q1 O3 => ?_)
    refine r_dup O3 rfl dL_law_11 ?_
    have k3 : 85 + 1 = kN (zx (zx K0 M2) [q1]) := by rw [kN_zx, k2]; rfl
    have kq3 : kad (zx (zx K0 M2) [q1]) 85 = q1 := by
      rw [zx_new (by omega), k2]
      rfl
    refine G_st (st' := [.ref (kad (zx (zx K0 M2) [q1]) 85), .ref q1]) (by rw [kq3]) ?_
    refine r_fN0 85 k3 O3 hA (fun sz => I_X6_init (K := zptN (zx (zx K0 M2) [q1]) 85 sz) (zptN_inj _ _ _) rfl _ (by
      show zup (layC (zx K0 M2) cs) (kN (zx K0 M2)) _ 85 = _
      rw [k2]
      exact zup_s _ _ _)) ql_L_12 zi_X6_init zin_X6 zc_X6_init ⟨by decide +kernel, by decide +kernel, by decide +kernel⟩ rfl (by decide) (by decide) (Nat.le_of_ble_eq_true rfl) (by show xc X0 + (1 + 84) + 1 + 10 ≤ (xR X0).cells; omega) (by show xn X0 + (7 + 798) + 16 + 660 ≤ (xR X0).slots; omega) dL_law_12 (fun sz M3 u hu O4 => ?_)
    obtain ⟨hM3, tx, td, dr, bg, ss, pa, im, ns, hh, tt, hmR, rfl⟩ := hu
    have eK : zx (zx (zx K0 M2) [q1]) M3 = zx K0 (M2 ++ [q1] ++ M3) := by rw [zx_app, zx_app, List.append_assoc]
    have eX : zXg (zXg (zXg X0 (1 + 84) (7 + 798)) 1 16) 10 660 = zXg X0 96 1481 := by
      simp only [zXg_app]
    have kN4 : kN (zx (zx (zx K0 M2) [q1]) M3) = 96 := by rw [kN_zx, ← k3, hM3]
    have old : ∀ i : Nat, i < 85 → kad (zx (zx (zx K0 M2) [q1]) M3) (0 + i) = kad (zx K0 M2) i := by
      intro i hi
      rw [Nat.zero_add, zx_old (by omega), zx_old (by omega)]
    have kq4 : kad (zx (zx (zx K0 M2) [q1]) M3) 85 = q1 := by
      rw [zx_old (by omega)]
      exact kq3
    have kq5 : kad (zx (zx (zx K0 M2) [q1]) M3) 0 = q0 := by
      have h9 := old 0 (by omega)
      rw [Nat.zero_add] at h9
      rw [h9]
      exact kq2
    have new : ∀ i : Nat, i < 11 → kad (zx (zx (zx K0 M2) [q1]) M3) (85 + i) = kad (zx (zptN (zx (zx K0 M2) [q1]) 85 sz) M3) i := by
      intro i hi
      rw [zend_kad (sz := sz) k3 (by omega), Nat.add_sub_cancel_left]
    refine n_astore_n O4 dL_law_15 (by decide) rfl ?_
    refine r_iconst O4 dL_law_16 ?_
    refine n_istore_n O4 dL_law_17 (by decide) rfl ?_
    have hJ4 : jS (zx (zx (zx K0 M2) [q1]) M3) (zXg (zXg (zXg X0 (1 + 84) (7 + 798)) 1 16) 10 660) b L xs := by
      rw [eK, eX]
      exact hJ _ _ _
    have hE4 : ∀ (lo : List (Nat × Value)) (ct : zE), G (zx (zx (zx K0 M2) [q1]) M3) (zXg (zXg (zXg X0 (1 + 84) (7 + 798)) 1 16) 10 660) 4 765 lo [.int (iI 1)] ct := by
      rw [eK, eX]
      exact hE _ _ _ (by omega) (by omega)
    have hRel : jR cs tx 0 td ss pa 0 im 0 ns 0 := by
      obtain ⟨j1, j2, j3, j4, j5⟩ := hI5
      exact ⟨hok, ⟨j2.symm, fun i i0 i1 => absurd i1 (by omega)⟩, by rw [j1]; exact hmR, ⟨j4.symm, fun i i0 i1 => absurd i1 (by omega)⟩, ⟨j5.symm, fun i i0 i1 => absurd i1 (by omega)⟩, j3.symm, fun i i0 i1 => absurd i1 (by omega)⟩
    refine zx_G (K := zx (zx (zx K0 M2) [q1]) M3) (K2 := zx (zx (zx K0 M2) [q1]) M3) (ct2 := jlaw (layC (zpt (zx (zx (zx K0 M2) [q1]) M3) 0 85) cs) (layM (zpt (zx (zx (zx K0 M2) [q1]) M3) 85 11) tx 0 td dr bg ss pa 0 im 0 ns 0 0 0 hh tt)) rfl rfl rfl (fun i hi => ⟨i, hi, rfl, ?_⟩) ?_
    · rw [kN4] at hi
      by_cases h85 : i < 85
      · have e1 : zend 85 (layM (zx (zptN (zx (zx K0 M2) [q1]) 85 sz) M3) tx 0 td dr bg ss pa 0 im 0 ns 0 0 0 hh tt) (zup (layC (zx K0 M2) cs) (kN (zx K0 M2)) (.inr (6, [.null, .int (iI 0), .null, .null, .null, .null, .null, .int (iI 0), .null, .int (iI 0), .null, .int (iI 0), .int (iI 0), .int (iI 0), .null, .null]))) i = layC (zx K0 M2) cs i := by
          unfold zend
          rw [if_pos h85, zup_n _ _ (by omega)]
        have e2 : jlaw (layC (zpt (zx (zx (zx K0 M2) [q1]) M3) 0 85) cs) (layM (zpt (zx (zx (zx K0 M2) [q1]) M3) 85 11) tx 0 td dr bg ss pa 0 im 0 ns 0 0 0 hh tt) i = layC (zpt (zx (zx (zx K0 M2) [q1]) M3) 0 85) cs i := if_pos h85
        rw [e1, e2]
        exact layC_same (K := zx K0 M2) (K2 := zpt (zx (zx (zx K0 M2) [q1]) M3) 0 85) hok (fun i hi => (old i hi).symm) rfl rfl rfl i h85
      · refine Or.inl ?_
        have e1 : zend 85 (layM (zx (zptN (zx (zx K0 M2) [q1]) 85 sz) M3) tx 0 td dr bg ss pa 0 im 0 ns 0 0 0 hh tt) (zup (layC (zx K0 M2) cs) (kN (zx K0 M2)) (.inr (6, [.null, .int (iI 0), .null, .null, .null, .null, .null, .int (iI 0), .null, .int (iI 0), .null, .int (iI 0), .int (iI 0), .int (iI 0), .null, .null]))) i = layM (zx (zptN (zx (zx K0 M2) [q1]) 85 sz) M3) tx 0 td dr bg ss pa 0 im 0 ns 0 0 0 hh tt (i - 85) := by
          unfold zend
          rw [if_neg h85]
        have e2 : jlaw (layC (zpt (zx (zx (zx K0 M2) [q1]) M3) 0 85) cs) (layM (zpt (zx (zx (zx K0 M2) [q1]) M3) 85 11) tx 0 td dr bg ss pa 0 im 0 ns 0 0 0 hh tt) i = layM (zpt (zx (zx (zx K0 M2) [q1]) M3) 85 11) tx 0 td dr bg ss pa 0 im 0 ns 0 0 0 hh tt (i - 85) := if_neg h85
        rw [e1, e2]
        exact layM_same (K := zx (zptN (zx (zx K0 M2) [q1]) 85 sz) M3) (K2 := zpt (zx (zx (zx K0 M2) [q1]) M3) 85 11) tx 0 td dr bg ss pa 0 im 0 ns 0 0 0 hh tt (fun i hi => (new i hi).symm) rfl (i - 85)
    · have hloop := jloop O4 (by decide) kN4 hJ4 hE4 2052 0 _ _ rfl (jRel_i (dr := dr) (bg := bg) (ap := 0) (la := 0) (hh := hh) (tt := tt) hRel)
      exact G_chk hloop (zsc rfl (zsc (by rw [kq5]; rfl) (zsc (by rw [kq4]; rfl) (zsc rfl zsn))))
  rw [lg_entry_eq]
  have hP0 : va_P (kD K0) vwCl (zwl K0 (fun _ => z0 0 0)) s.heap := by
    rw [hK0]
    exact fun k q hk => absurd hk (by simp [zwl, kN])
  have hl := lv_entry ([.ref b]) (n := 4) (Nat.le_of_ble_eq_true rfl)
  have h9 := main s.heap [] _ hP0 (by rw [hK0, hX0]; exact va_S.rf) hl
  rw [hK0, hX0] at h9
  exact h9
