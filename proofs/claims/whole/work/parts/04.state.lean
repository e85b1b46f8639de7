/-- a sitting: members, amount, heat, salt, rounds, fastHunger; kind, spoon, hunger, bears, eaten -/
abbrev SV : Type := Int × Int × Int × Int × Int × Int × (Int → Int) × (Int → Int) × (Int → Int) × (Int → Int) × (Int → Int)
/-- all of the class: sittings (0 now, 1 trial, 2..9 undoable, 10, 11 kept); text; sets; sightings; the two piles -/
abbrev CS : Type := (Nat → SV) × ((Int → Int) × (Int → Int) × Int) × ((Int → Int) × Int × Int) × ((Int → Int) × (Int → Int) × Int) × ((Int → Nat) × Int) × ((Int → Nat) × Int)
def qn (v : SV) : Int := v.1
def qam (v : SV) : Int := v.2.1
def qhe (v : SV) : Int := v.2.2.1
def qsa (v : SV) : Int := v.2.2.2.1
def qro (v : SV) : Int := v.2.2.2.2.1
def qfa (v : SV) : Int := v.2.2.2.2.2.1
def qkd (v : SV) : Int → Int := v.2.2.2.2.2.2.1
def qsp (v : SV) : Int → Int := v.2.2.2.2.2.2.2.1
def qhu (v : SV) : Int → Int := v.2.2.2.2.2.2.2.2.1
def qbe (v : SV) : Int → Int := v.2.2.2.2.2.2.2.2.2.1
def qea (v : SV) : Int → Int := v.2.2.2.2.2.2.2.2.2.2
def sitE (K : zK) (j : Nat) (v : SV) : Nat → va_E := fun a => match a with
  | 0 => .inr (3, [.ref (kad K (6 * j + 14)), .ref (kad K (6 * j + 15)), .ref (kad K (6 * j + 16)), .ref (kad K (6 * j + 17)), .ref (kad K (6 * j + 18)), .int (iI (qn v)), .int (iI (qam v)), .int (iI (qhe v)), .int (iI (qsa v)), .int (iI (qro v)), .int (iI (qfa v))])
  | 1 => .inl (kI K, 7, .inl (aI (qkd v)))
  | 2 => .inl (kI K, 7, .inl (aI (qsp v)))
  | 3 => .inl (kI K, 7, .inl (aI (qhu v)))
  | 4 => .inl (kI K, 7, .inl (aI (qbe v)))
  | _ => .inl (kI K, 7, .inl (aI (qea v)))
def pileC (g : Int → Nat) : Int → Nat := fun q => 6 * g q + 13
def layC (K : zK) (c : CS) : zE := fun k => match k with
  | 0 => .inr (5, [.ref (kad K 1), .ref (kad K (6 * 0 + 13)), .ref (kad K (6 * 1 + 13)), .ref (kad K 4), .ref (kad K 6), .ref (kad K 9), .ref (kad K 11)])
  | 1 => .inr (4, [.ref (kad K 2), .ref (kad K 3), .int (iI c.2.1.2.2)])
  | 2 => .inl (kC K, 200, .inl (aI c.2.1.1))
  | 3 => .inl (kI K, 4, .inl (aI c.2.1.2.1))
  | 4 => .inr (1, [.ref (kad K 5), .int (iI c.2.2.1.2.1), .int (iI c.2.2.1.2.2)])
  | 5 => .inl (kI K, 7, .inl (aI c.2.2.1.1))
  | 6 => .inr (2, [.ref (kad K 7), .ref (kad K 8), .int (iI c.2.2.2.1.2.2)])
  | 7 => .inl (kI K, 6, .inl (aI c.2.2.2.1.1))
  | 8 => .inl (kI K, 6, .inl (aI c.2.2.2.1.2.1))
  | 9 => .inr (0, [.ref (kad K 10), .int (iI c.2.2.2.2.1.2)])
  | 10 => .inl (kS K, 8, .inr (.inr (.inr (.inr (rI K (pileC c.2.2.2.2.1.1))))))
  | 11 => .inr (0, [.ref (kad K 12), .int (iI c.2.2.2.2.2.2)])
  | 12 => .inl (kS K, 2, .inr (.inr (.inr (.inr (rI K (pileC c.2.2.2.2.2.1))))))
  | k + 13 => sitE K (k / 6) (c.1 (k / 6)) (k % 6)
def upS (S : Nat → SV) (j : Nat) (v : SV) : Nat → SV := fun i => if i = j then v else S i
/-- sitting j holds v -/
def wS (c : CS) (j : Nat) (v : SV) : CS := (upS c.1 j v, c.2)
theorem upS_s (S : Nat → SV) (j : Nat) (v : SV) : upS S j v j = v := by simp [upS]
theorem upS_n (S : Nat → SV) {j i : Nat} (v : SV) (h : i ≠ j) : upS S j v i = S i := by simp [upS, h]
theorem upS_id (S : Nat → SV) (j : Nat) : upS S j (S j) = S := by
  funext i
  unfold upS
  by_cases h : i = j
  · rw [if_pos h, h]
  · rw [if_neg h]
theorem upS_up (S : Nat → SV) (j : Nat) (v u : SV) : upS (upS S j v) j u = upS S j u := by
  funext i
  unfold upS
  by_cases h : i = j
  · rw [if_pos h, if_pos h]
  · rw [if_neg h, if_neg h, if_neg h]
theorem wS_id (c : CS) (j : Nat) : wS c j (c.1 j) = c := by unfold wS; rw [upS_id]
theorem wS_up (c : CS) (j : Nat) (v u : SV) : wS (wS c j v) j u = wS c j u := by unfold wS; rw [upS_up]
theorem wS_s (c : CS) (j : Nat) (v : SV) : (wS c j v).1 j = v := upS_s _ _ _
theorem wS_n (c : CS) {j i : Nat} (v : SV) (h : i ≠ j) : (wS c j v).1 i = c.1 i := upS_n _ _ h
theorem lay_k (K : zK) (c : CS) (k : Nat) : layC K c (k + 13) = sitE K (k / 6) (c.1 (k / 6)) (k % 6) := rfl
theorem lay_j (K : zK) (c : CS) (j a : Nat) (ha : a < 6) : layC K c (6 * j + a + 13) = sitE K j (c.1 j) a := by
  rw [lay_k, show (6 * j + a) / 6 = j by omega, show (6 * j + a) % 6 = a by omega]
theorem lay_ja (K : zK) (c : CS) (j : Nat) (v : SV) (a : Nat) (ha : a < 6) : layC K (wS c j v) (6 * j + a + 13) = sitE K j v a := by
  rw [lay_j K _ j a ha, wS_s]
theorem lay_q (K : zK) (c : CS) (j : Nat) (v : SV) (a : Nat) {q : Nat} (hq : q = 6 * j + a + 13) (ha : a < 6) {e : va_E} (he : sitE K j v a = e) : layC K (wS c j v) q = e := by
  rw [hq, lay_ja K c j v a ha, he]
theorem lay_qj (K : zK) (c : CS) (j a : Nat) {q : Nat} (hq : q = 6 * j + a + 13) (ha : a < 6) {e : va_E} (he : sitE K j (c.1 j) a = e) : layC K c q = e := by
  rw [hq, lay_j K c j a ha, he]
theorem lay_j0 (K : zK) (c : CS) (j : Nat) : layC K c (6 * j + 13) = .inr (3, [.ref (kad K (6 * j + 14)), .ref (kad K (6 * j + 15)), .ref (kad K (6 * j + 16)), .ref (kad K (6 * j + 17)), .ref (kad K (6 * j + 18)), .int (iI (qn (c.1 j))), .int (iI (qam (c.1 j))), .int (iI (qhe (c.1 j))), .int (iI (qsa (c.1 j))), .int (iI (qro (c.1 j))), .int (iI (qfa (c.1 j)))]) := lay_qj K c j 0 (by omega) (by decide) rfl
/-- a write into one cell of sitting j -/
theorem lay_up (K : zK) (c : CS) (j : Nat) (v u : SV) (a : Nat) {q : Nat} (hq : q = 6 * j + a + 13) (ha : a < 6) (e : va_E) (he : sitE K j u a = e) (ho : ∀ b : Nat, b < 6 → b ≠ a → sitE K j u b = sitE K j v b) : zup (layC K (wS c j v)) q e = layC K (wS c j u) := by
  subst hq
  funext k
  unfold zup
  by_cases hk : k = 6 * j + a + 13
  · rw [if_pos hk, hk, lay_ja K c j u a ha, he]
  · rw [if_neg hk]
    match k, hk with
    | 0, _ => rfl
    | 1, _ => rfl
    | 2, _ => rfl
    | 3, _ => rfl
    | 4, _ => rfl
    | 5, _ => rfl
    | 6, _ => rfl
    | 7, _ => rfl
    | 8, _ => rfl
    | 9, _ => rfl
    | 10, _ => rfl
    | 11, _ => rfl
    | 12, _ => rfl
    | q + 13, hk =>
      by_cases hj : q / 6 = j
      · have e1 : q = 6 * j + q % 6 := by omega
        have hb : q % 6 < 6 := Nat.mod_lt _ (by decide)
        rw [e1, lay_ja K c j u (q % 6) hb, lay_ja K c j v (q % 6) hb]
        exact (ho (q % 6) hb (by omega)).symm
      · rw [lay_k, lay_k, wS_n c v hj, wS_n c u hj]
theorem six {p : Nat → Prop} (h0 : p 0) (h1 : p 1) (h2 : p 2) (h3 : p 3) (h4 : p 4) (h5 : p 5) : ∀ b : Nat, b < 6 → p b := by
  intro b hb
  match b, hb with
  | 0, _ => exact h0
  | 1, _ => exact h1
  | 2, _ => exact h2
  | 3, _ => exact h3
  | 4, _ => exact h4
  | 5, _ => exact h5
  | b + 6, h => omega

theorem s_get_n {K : zK} {X : zX} {cc : ByteArray} {own : String} {ret : Option FieldType} {nL f pc : Nat} {lo : List (Nat × Value)} {st : List Value} {idx : Nat} {c : CS} {j : Nat} {n am he sa ro fa : Int} {kd sp hu be ea : Int → Int} (O : zO K X cc own ret nL f) (hN : kN K = 85) (hj : j < 12) (hw : Cond.fieldLink own idx RX3 (TX3 5).2.1 (TX3 5).2.2.1 ∈ zTB) (hd : decode cc pc = .ok (.getfield idx, 3)) (k : G K X nL (pc + 3) lo (.int (iI n) :: st) (layC K (wS c j (n, am, he, sa, ro, fa, kd, sp, hu, be, ea)))) : G K X nL pc lo (.ref (kad K (6 * j + 13)) :: st) (layC K (wS c j (n, am, he, sa, ro, fa, kd, sp, hu, be, ea))) :=
  r_get O (by rw [hN]; omega) (lay_q K c j (n, am, he, sa, ro, fa, kd, sp, hu, be, ea) 0 (by omega) (by decide) rfl) zCl3 hw (by decide) rfl hd k
theorem s_put_n {K : zK} {X : zX} {cc : ByteArray} {own : String} {ret : Option FieldType} {nL f pc : Nat} {lo : List (Nat × Value)} {st : List Value} {idx : Nat} {x : Int} {c : CS} {j : Nat} {n am he sa ro fa : Int} {kd sp hu be ea : Int → Int} (O : zO K X cc own ret nL f) (hN : kN K = 85) (hj : j < 12) (hw : Cond.fieldLink own idx RX3 (TX3 5).2.1 (TX3 5).2.2.1 ∈ zTB) (hd : decode cc pc = .ok (.putfield idx, 3)) (k : G K X nL (pc + 3) lo st (layC K (wS c j (x, am, he, sa, ro, fa, kd, sp, hu, be, ea)))) : G K X nL pc lo (.int (iI x) :: .ref (kad K (6 * j + 13)) :: st) (layC K (wS c j (n, am, he, sa, ro, fa, kd, sp, hu, be, ea))) := by
  refine r_put (ty := .int) O (by rw [hN]; omega) (lay_q K c j (n, am, he, sa, ro, fa, kd, sp, hu, be, ea) 0 (by omega) (by decide) rfl) zCl3 hw (by decide) rfl (by decide +kernel) rfl rfl (Nat.le_of_ble_eq_true rfl) hd ?_
  exact G_ct (lay_up K c j (n, am, he, sa, ro, fa, kd, sp, hu, be, ea) (x, am, he, sa, ro, fa, kd, sp, hu, be, ea) 0 (by omega) (by decide) _ rfl (six (fun h => absurd rfl h) (fun _ => by simp only [sitE, qn, qam, qhe, qsa, qro, qfa, qkd, qsp, qhu, qbe, qea]) (fun _ => by simp only [sitE, qn, qam, qhe, qsa, qro, qfa, qkd, qsp, qhu, qbe, qea]) (fun _ => by simp only [sitE, qn, qam, qhe, qsa, qro, qfa, qkd, qsp, qhu, qbe, qea]) (fun _ => by simp only [sitE, qn, qam, qhe, qsa, qro, qfa, qkd, qsp, qhu, qbe, qea]) (fun _ => by simp only [sitE, qn, qam, qhe, qsa, qro, qfa, qkd, qsp, qhu, qbe, qea]))) k
theorem s_get_am {K : zK} {X : zX} {cc : ByteArray} {own : String} {ret : Option FieldType} {nL f pc : Nat} {lo : List (Nat × Value)} {st : List Value} {idx : Nat} {c : CS} {j : Nat} {n am he sa ro fa : Int} {kd sp hu be ea : Int → Int} (O : zO K X cc own ret nL f) (hN : kN K = 85) (hj : j < 12) (hw : Cond.fieldLink own idx RX3 (TX3 6).2.1 (TX3 6).2.2.1 ∈ zTB) (hd : decode cc pc = .ok (.getfield idx, 3)) (k : G K X nL (pc + 3) lo (.int (iI am) :: st) (layC K (wS c j (n, am, he, sa, ro, fa, kd, sp, hu, be, ea)))) : G K X nL pc lo (.ref (kad K (6 * j + 13)) :: st) (layC K (wS c j (n, am, he, sa, ro, fa, kd, sp, hu, be, ea))) :=
  r_get O (by rw [hN]; omega) (lay_q K c j (n, am, he, sa, ro, fa, kd, sp, hu, be, ea) 0 (by omega) (by decide) rfl) zCl3 hw (by decide) rfl hd k
theorem s_put_am {K : zK} {X : zX} {cc : ByteArray} {own : String} {ret : Option FieldType} {nL f pc : Nat} {lo : List (Nat × Value)} {st : List Value} {idx : Nat} {x : Int} {c : CS} {j : Nat} {n am he sa ro fa : Int} {kd sp hu be ea : Int → Int} (O : zO K X cc own ret nL f) (hN : kN K = 85) (hj : j < 12) (hw : Cond.fieldLink own idx RX3 (TX3 6).2.1 (TX3 6).2.2.1 ∈ zTB) (hd : decode cc pc = .ok (.putfield idx, 3)) (k : G K X nL (pc + 3) lo st (layC K (wS c j (n, x, he, sa, ro, fa, kd, sp, hu, be, ea)))) : G K X nL pc lo (.int (iI x) :: .ref (kad K (6 * j + 13)) :: st) (layC K (wS c j (n, am, he, sa, ro, fa, kd, sp, hu, be, ea))) := by
  refine r_put (ty := .int) O (by rw [hN]; omega) (lay_q K c j (n, am, he, sa, ro, fa, kd, sp, hu, be, ea) 0 (by omega) (by decide) rfl) zCl3 hw (by decide) rfl (by decide +kernel) rfl rfl (Nat.le_of_ble_eq_true rfl) hd ?_
  exact G_ct (lay_up K c j (n, am, he, sa, ro, fa, kd, sp, hu, be, ea) (n, x, he, sa, ro, fa, kd, sp, hu, be, ea) 0 (by omega) (by decide) _ rfl (six (fun h => absurd rfl h) (fun _ => by simp only [sitE, qn, qam, qhe, qsa, qro, qfa, qkd, qsp, qhu, qbe, qea]) (fun _ => by simp only [sitE, qn, qam, qhe, qsa, qro, qfa, qkd, qsp, qhu, qbe, qea]) (fun _ => by simp only [sitE, qn, qam, qhe, qsa, qro, qfa, qkd, qsp, qhu, qbe, qea]) (fun _ => by simp only [sitE, qn, qam, qhe, qsa, qro, qfa, qkd, qsp, qhu, qbe, qea]) (fun _ => by simp only [sitE, qn, qam, qhe, qsa, qro, qfa, qkd, qsp, qhu, qbe, qea]))) k
theorem s_get_he {K : zK} {X : zX} {cc : ByteArray} {own : String} {ret : Option FieldType} {nL f pc : Nat} {lo : List (Nat × Value)} {st : List Value} {idx : Nat} {c : CS} {j : Nat} {n am he sa ro fa : Int} {kd sp hu be ea : Int → Int} (O : zO K X cc own ret nL f) (hN : kN K = 85) (hj : j < 12) (hw : Cond.fieldLink own idx RX3 (TX3 7).2.1 (TX3 7).2.2.1 ∈ zTB) (hd : decode cc pc = .ok (.getfield idx, 3)) (k : G K X nL (pc + 3) lo (.int (iI he) :: st) (layC K (wS c j (n, am, he, sa, ro, fa, kd, sp, hu, be, ea)))) : G K X nL pc lo (.ref (kad K (6 * j + 13)) :: st) (layC K (wS c j (n, am, he, sa, ro, fa, kd, sp, hu, be, ea))) :=
  r_get O (by rw [hN]; omega) (lay_q K c j (n, am, he, sa, ro, fa, kd, sp, hu, be, ea) 0 (by omega) (by decide) rfl) zCl3 hw (by decide) rfl hd k
theorem s_put_he {K : zK} {X : zX} {cc : ByteArray} {own : String} {ret : Option FieldType} {nL f pc : Nat} {lo : List (Nat × Value)} {st : List Value} {idx : Nat} {x : Int} {c : CS} {j : Nat} {n am he sa ro fa : Int} {kd sp hu be ea : Int → Int} (O : zO K X cc own ret nL f) (hN : kN K = 85) (hj : j < 12) (hw : Cond.fieldLink own idx RX3 (TX3 7).2.1 (TX3 7).2.2.1 ∈ zTB) (hd : decode cc pc = .ok (.putfield idx, 3)) (k : G K X nL (pc + 3) lo st (layC K (wS c j (n, am, x, sa, ro, fa, kd, sp, hu, be, ea)))) : G K X nL pc lo (.int (iI x) :: .ref (kad K (6 * j + 13)) :: st) (layC K (wS c j (n, am, he, sa, ro, fa, kd, sp, hu, be, ea))) := by
  refine r_put (ty := .int) O (by rw [hN]; omega) (lay_q K c j (n, am, he, sa, ro, fa, kd, sp, hu, be, ea) 0 (by omega) (by decide) rfl) zCl3 hw (by decide) rfl (by decide +kernel) rfl rfl (Nat.le_of_ble_eq_true rfl) hd ?_
  exact G_ct (lay_up K c j (n, am, he, sa, ro, fa, kd, sp, hu, be, ea) (n, am, x, sa, ro, fa, kd, sp, hu, be, ea) 0 (by omega) (by decide) _ rfl (six (fun h => absurd rfl h) (fun _ => by simp only [sitE, qn, qam, qhe, qsa, qro, qfa, qkd, qsp, qhu, qbe, qea]) (fun _ => by simp only [sitE, qn, qam, qhe, qsa, qro, qfa, qkd, qsp, qhu, qbe, qea]) (fun _ => by simp only [sitE, qn, qam, qhe, qsa, qro, qfa, qkd, qsp, qhu, qbe, qea]) (fun _ => by simp only [sitE, qn, qam, qhe, qsa, qro, qfa, qkd, qsp, qhu, qbe, qea]) (fun _ => by simp only [sitE, qn, qam, qhe, qsa, qro, qfa, qkd, qsp, qhu, qbe, qea]))) k
theorem s_get_sa {K : zK} {X : zX} {cc : ByteArray} {own : String} {ret : Option FieldType} {nL f pc : Nat} {lo : List (Nat × Value)} {st : List Value} {idx : Nat} {c : CS} {j : Nat} {n am he sa ro fa : Int} {kd sp hu be ea : Int → Int} (O : zO K X cc own ret nL f) (hN : kN K = 85) (hj : j < 12) (hw : Cond.fieldLink own idx RX3 (TX3 8).2.1 (TX3 8).2.2.1 ∈ zTB) (hd : decode cc pc = .ok (.getfield idx, 3)) (k : G K X nL (pc + 3) lo (.int (iI sa) :: st) (layC K (wS c j (n, am, he, sa, ro, fa, kd, sp, hu, be, ea)))) : G K X nL pc lo (.ref (kad K (6 * j + 13)) :: st) (layC K (wS c j (n, am, he, sa, ro, fa, kd, sp, hu, be, ea))) :=
  r_get O (by rw [hN]; omega) (lay_q K c j (n, am, he, sa, ro, fa, kd, sp, hu, be, ea) 0 (by omega) (by decide) rfl) zCl3 hw (by decide) rfl hd k
theorem s_put_sa {K : zK} {X : zX} {cc : ByteArray} {own : String} {ret : Option FieldType} {nL f pc : Nat} {lo : List (Nat × Value)} {st : List Value} {idx : Nat} {x : Int} {c : CS} {j : Nat} {n am he sa ro fa : Int} {kd sp hu be ea : Int → Int} (O : zO K X cc own ret nL f) (hN : kN K = 85) (hj : j < 12) (hw : Cond.fieldLink own idx RX3 (TX3 8).2.1 (TX3 8).2.2.1 ∈ zTB) (hd : decode cc pc = .ok (.putfield idx, 3)) (k : G K X nL (pc + 3) lo st (layC K (wS c j (n, am, he, x, ro, fa, kd, sp, hu, be, ea)))) : G K X nL pc lo (.int (iI x) :: .ref (kad K (6 * j + 13)) :: st) (layC K (wS c j (n, am, he, sa, ro, fa, kd, sp, hu, be, ea))) := by
  refine r_put (ty := .int) O (by rw [hN]; omega) (lay_q K c j (n, am, he, sa, ro, fa, kd, sp, hu, be, ea) 0 (by omega) (by decide) rfl) zCl3 hw (by decide) rfl (by decide +kernel) rfl rfl (Nat.le_of_ble_eq_true rfl) hd ?_
  exact G_ct (lay_up K c j (n, am, he, sa, ro, fa, kd, sp, hu, be, ea) (n, am, he, x, ro, fa, kd, sp, hu, be, ea) 0 (by omega) (by decide) _ rfl (six (fun h => absurd rfl h) (fun _ => by simp only [sitE, qn, qam, qhe, qsa, qro, qfa, qkd, qsp, qhu, qbe, qea]) (fun _ => by simp only [sitE, qn, qam, qhe, qsa, qro, qfa, qkd, qsp, qhu, qbe, qea]) (fun _ => by simp only [sitE, qn, qam, qhe, qsa, qro, qfa, qkd, qsp, qhu, qbe, qea]) (fun _ => by simp only [sitE, qn, qam, qhe, qsa, qro, qfa, qkd, qsp, qhu, qbe, qea]) (fun _ => by simp only [sitE, qn, qam, qhe, qsa, qro, qfa, qkd, qsp, qhu, qbe, qea]))) k
theorem s_get_ro {K : zK} {X : zX} {cc : ByteArray} {own : String} {ret : Option FieldType} {nL f pc : Nat} {lo : List (Nat × Value)} {st : List Value} {idx : Nat} {c : CS} {j : Nat} {n am he sa ro fa : Int} {kd sp hu be ea : Int → Int} (O : zO K X cc own ret nL f) (hN : kN K = 85) (hj : j < 12) (hw : Cond.fieldLink own idx RX3 (TX3 9).2.1 (TX3 9).2.2.1 ∈ zTB) (hd : decode cc pc = .ok (.getfield idx, 3)) (k : G K X nL (pc + 3) lo (.int (iI ro) :: st) (layC K (wS c j (n, am, he, sa, ro, fa, kd, sp, hu, be, ea)))) : G K X nL pc lo (.ref (kad K (6 * j + 13)) :: st) (layC K (wS c j (n, am, he, sa, ro, fa, kd, sp, hu, be, ea))) :=
  r_get O (by rw [hN]; omega) (lay_q K c j (n, am, he, sa, ro, fa, kd, sp, hu, be, ea) 0 (by omega) (by decide) rfl) zCl3 hw (by decide) rfl hd k
theorem s_put_ro {K : zK} {X : zX} {cc : ByteArray} {own : String} {ret : Option FieldType} {nL f pc : Nat} {lo : List (Nat × Value)} {st : List Value} {idx : Nat} {x : Int} {c : CS} {j : Nat} {n am he sa ro fa : Int} {kd sp hu be ea : Int → Int} (O : zO K X cc own ret nL f) (hN : kN K = 85) (hj : j < 12) (hw : Cond.fieldLink own idx RX3 (TX3 9).2.1 (TX3 9).2.2.1 ∈ zTB) (hd : decode cc pc = .ok (.putfield idx, 3)) (k : G K X nL (pc + 3) lo st (layC K (wS c j (n, am, he, sa, x, fa, kd, sp, hu, be, ea)))) : G K X nL pc lo (.int (iI x) :: .ref (kad K (6 * j + 13)) :: st) (layC K (wS c j (n, am, he, sa, ro, fa, kd, sp, hu, be, ea))) := by
  refine r_put (ty := .int) O (by rw [hN]; omega) (lay_q K c j (n, am, he, sa, ro, fa, kd, sp, hu, be, ea) 0 (by omega) (by decide) rfl) zCl3 hw (by decide) rfl (by decide +kernel) rfl rfl (Nat.le_of_ble_eq_true rfl) hd ?_
  exact G_ct (lay_up K c j (n, am, he, sa, ro, fa, kd, sp, hu, be, ea) (n, am, he, sa, x, fa, kd, sp, hu, be, ea) 0 (by omega) (by decide) _ rfl (six (fun h => absurd rfl h) (fun _ => by simp only [sitE, qn, qam, qhe, qsa, qro, qfa, qkd, qsp, qhu, qbe, qea]) (fun _ => by simp only [sitE, qn, qam, qhe, qsa, qro, qfa, qkd, qsp, qhu, qbe, qea]) (fun _ => by simp only [sitE, qn, qam, qhe, qsa, qro, qfa, qkd, qsp, qhu, qbe, qea]) (fun _ => by simp only [sitE, qn, qam, qhe, qsa, qro, qfa, qkd, qsp, qhu, qbe, qea]) (fun _ => by simp only [sitE, qn, qam, qhe, qsa, qro, qfa, qkd, qsp, qhu, qbe, qea]))) k
theorem s_get_fa {K : zK} {X : zX} {cc : ByteArray} {own : String} {ret : Option FieldType} {nL f pc : Nat} {lo : List (Nat × Value)} {st : List Value} {idx : Nat} {c : CS} {j : Nat} {n am he sa ro fa : Int} {kd sp hu be ea : Int → Int} (O : zO K X cc own ret nL f) (hN : kN K = 85) (hj : j < 12) (hw : Cond.fieldLink own idx RX3 (TX3 10).2.1 (TX3 10).2.2.1 ∈ zTB) (hd : decode cc pc = .ok (.getfield idx, 3)) (k : G K X nL (pc + 3) lo (.int (iI fa) :: st) (layC K (wS c j (n, am, he, sa, ro, fa, kd, sp, hu, be, ea)))) : G K X nL pc lo (.ref (kad K (6 * j + 13)) :: st) (layC K (wS c j (n, am, he, sa, ro, fa, kd, sp, hu, be, ea))) :=
  r_get O (by rw [hN]; omega) (lay_q K c j (n, am, he, sa, ro, fa, kd, sp, hu, be, ea) 0 (by omega) (by decide) rfl) zCl3 hw (by decide) rfl hd k
theorem s_put_fa {K : zK} {X : zX} {cc : ByteArray} {own : String} {ret : Option FieldType} {nL f pc : Nat} {lo : List (Nat × Value)} {st : List Value} {idx : Nat} {x : Int} {c : CS} {j : Nat} {n am he sa ro fa : Int} {kd sp hu be ea : Int → Int} (O : zO K X cc own ret nL f) (hN : kN K = 85) (hj : j < 12) (hw : Cond.fieldLink own idx RX3 (TX3 10).2.1 (TX3 10).2.2.1 ∈ zTB) (hd : decode cc pc = .ok (.putfield idx, 3)) (k : G K X nL (pc + 3) lo st (layC K (wS c j (n, am, he, sa, ro, x, kd, sp, hu, be, ea)))) : G K X nL pc lo (.int (iI x) :: .ref (kad K (6 * j + 13)) :: st) (layC K (wS c j (n, am, he, sa, ro, fa, kd, sp, hu, be, ea))) := by
  refine r_put (ty := .int) O (by rw [hN]; omega) (lay_q K c j (n, am, he, sa, ro, fa, kd, sp, hu, be, ea) 0 (by omega) (by decide) rfl) zCl3 hw (by decide) rfl (by decide +kernel) rfl rfl (Nat.le_of_ble_eq_true rfl) hd ?_
  exact G_ct (lay_up K c j (n, am, he, sa, ro, fa, kd, sp, hu, be, ea) (n, am, he, sa, ro, x, kd, sp, hu, be, ea) 0 (by omega) (by decide) _ rfl (six (fun h => absurd rfl h) (fun _ => by simp only [sitE, qn, qam, qhe, qsa, qro, qfa, qkd, qsp, qhu, qbe, qea]) (fun _ => by simp only [sitE, qn, qam, qhe, qsa, qro, qfa, qkd, qsp, qhu, qbe, qea]) (fun _ => by simp only [sitE, qn, qam, qhe, qsa, qro, qfa, qkd, qsp, qhu, qbe, qea]) (fun _ => by simp only [sitE, qn, qam, qhe, qsa, qro, qfa, qkd, qsp, qhu, qbe, qea]) (fun _ => by simp only [sitE, qn, qam, qhe, qsa, qro, qfa, qkd, qsp, qhu, qbe, qea]))) k
theorem s_arr_kd {K : zK} {X : zX} {cc : ByteArray} {own : String} {ret : Option FieldType} {nL f pc : Nat} {lo : List (Nat × Value)} {st : List Value} {idx : Nat} {v : SV} {c : CS} {j : Nat} (O : zO K X cc own ret nL f) (hN : kN K = 85) (hj : j < 12) (hw : Cond.fieldLink own idx RX3 (TX3 0).2.1 (TX3 0).2.2.1 ∈ zTB) (hd : decode cc pc = .ok (.getfield idx, 3)) (k : G K X nL (pc + 3) lo (.ref (kad K (6 * j + 14)) :: st) (layC K (wS c j v))) : G K X nL pc lo (.ref (kad K (6 * j + 13)) :: st) (layC K (wS c j v)) :=
  r_get O (by rw [hN]; omega) (lay_q K c j v 0 (by omega) (by decide) rfl) zCl3 hw (by decide) rfl hd k
theorem s_ld_kd {K : zK} {X : zX} {cc : ByteArray} {own : String} {ret : Option FieldType} {nL f pc : Nat} {lo : List (Nat × Value)} {st : List Value} {z : Int} {c : CS} {j : Nat} {n am he sa ro fa : Int} {kd sp hu be ea : Int → Int} (O : zO K X cc own ret nL f) (hN : kN K = 85) (hj : j < 12) (h0 : 0 ≤ z) (h1 : z < 7) (hd : decode cc pc = .ok (.iaload, 1)) (k : G K X nL (pc + 1) lo (.int (iI (kd z)) :: st) (layC K (wS c j (n, am, he, sa, ro, fa, kd, sp, hu, be, ea)))) : G K X nL pc lo (.int (iI z) :: .ref (kad K (6 * j + 14)) :: st) (layC K (wS c j (n, am, he, sa, ro, fa, kd, sp, hu, be, ea))) :=
  r_iald O (by rw [hN]; omega) (lay_q K c j (n, am, he, sa, ro, fa, kd, sp, hu, be, ea) 1 (by omega) (by decide) rfl : layC K (wS c j (n, am, he, sa, ro, fa, kd, sp, hu, be, ea)) (6 * j + 14) = .inl (kI K, 7, .inl (aI kd))) h0 h1 (by decide) hd k
theorem s_st_kd {K : zK} {X : zX} {cc : ByteArray} {own : String} {ret : Option FieldType} {nL f pc : Nat} {lo : List (Nat × Value)} {st : List Value} {z x : Int} {c : CS} {j : Nat} {n am he sa ro fa : Int} {kd sp hu be ea : Int → Int} (O : zO K X cc own ret nL f) (hN : kN K = 85) (hj : j < 12) (h0 : 0 ≤ z) (h1 : z < 7) (hd : decode cc pc = .ok (.iastore, 1)) (k : G K X nL (pc + 1) lo st (layC K (wS c j (n, am, he, sa, ro, fa, uI kd z x, sp, hu, be, ea)))) : G K X nL pc lo (.int (iI x) :: .int (iI z) :: .ref (kad K (6 * j + 14)) :: st) (layC K (wS c j (n, am, he, sa, ro, fa, kd, sp, hu, be, ea))) := by
  refine r_iast O (by rw [hN]; omega) (lay_q K c j (n, am, he, sa, ro, fa, kd, sp, hu, be, ea) 1 (by omega) (by decide) rfl : layC K (wS c j (n, am, he, sa, ro, fa, kd, sp, hu, be, ea)) (6 * j + 14) = .inl (kI K, 7, .inl (aI kd))) h0 h1 (by decide) hd ?_
  exact G_ct (lay_up K c j (n, am, he, sa, ro, fa, kd, sp, hu, be, ea) (n, am, he, sa, ro, fa, uI kd z x, sp, hu, be, ea) 1 (by omega) (by decide) _ rfl (six (fun _ => by simp only [sitE, qn, qam, qhe, qsa, qro, qfa, qkd, qsp, qhu, qbe, qea]) (fun h => absurd rfl h) (fun _ => by simp only [sitE, qn, qam, qhe, qsa, qro, qfa, qkd, qsp, qhu, qbe, qea]) (fun _ => by simp only [sitE, qn, qam, qhe, qsa, qro, qfa, qkd, qsp, qhu, qbe, qea]) (fun _ => by simp only [sitE, qn, qam, qhe, qsa, qro, qfa, qkd, qsp, qhu, qbe, qea]) (fun _ => by simp only [sitE, qn, qam, qhe, qsa, qro, qfa, qkd, qsp, qhu, qbe, qea]))) k
theorem s_len_kd {K : zK} {X : zX} {cc : ByteArray} {own : String} {ret : Option FieldType} {nL f pc : Nat} {lo : List (Nat × Value)} {st : List Value} {v : SV} {c : CS} {j : Nat} (O : zO K X cc own ret nL f) (hN : kN K = 85) (hj : j < 12) (hd : decode cc pc = .ok (.arraylength, 1)) (k : G K X nL (pc + 1) lo (.int (iI 7) :: st) (layC K (wS c j v))) : G K X nL pc lo (.ref (kad K (6 * j + 14)) :: st) (layC K (wS c j v)) :=
  r_alen (n := 7) O (by rw [hN]; omega) (lay_q K c j v 1 (by omega) (by decide) rfl : layC K (wS c j v) (6 * j + 14) = .inl (kI K, 7, .inl (aI (qkd v)))) (Or.inl rfl) rfl hd k
theorem s_arr_sp {K : zK} {X : zX} {cc : ByteArray} {own : String} {ret : Option FieldType} {nL f pc : Nat} {lo : List (Nat × Value)} {st : List Value} {idx : Nat} {v : SV} {c : CS} {j : Nat} (O : zO K X cc own ret nL f) (hN : kN K = 85) (hj : j < 12) (hw : Cond.fieldLink own idx RX3 (TX3 1).2.1 (TX3 1).2.2.1 ∈ zTB) (hd : decode cc pc = .ok (.getfield idx, 3)) (k : G K X nL (pc + 3) lo (.ref (kad K (6 * j + 15)) :: st) (layC K (wS c j v))) : G K X nL pc lo (.ref (kad K (6 * j + 13)) :: st) (layC K (wS c j v)) :=
  r_get O (by rw [hN]; omega) (lay_q K c j v 0 (by omega) (by decide) rfl) zCl3 hw (by decide) rfl hd k
theorem s_ld_sp {K : zK} {X : zX} {cc : ByteArray} {own : String} {ret : Option FieldType} {nL f pc : Nat} {lo : List (Nat × Value)} {st : List Value} {z : Int} {c : CS} {j : Nat} {n am he sa ro fa : Int} {kd sp hu be ea : Int → Int} (O : zO K X cc own ret nL f) (hN : kN K = 85) (hj : j < 12) (h0 : 0 ≤ z) (h1 : z < 7) (hd : decode cc pc = .ok (.iaload, 1)) (k : G K X nL (pc + 1) lo (.int (iI (sp z)) :: st) (layC K (wS c j (n, am, he, sa, ro, fa, kd, sp, hu, be, ea)))) : G K X nL pc lo (.int (iI z) :: .ref (kad K (6 * j + 15)) :: st) (layC K (wS c j (n, am, he, sa, ro, fa, kd, sp, hu, be, ea))) :=
  r_iald O (by rw [hN]; omega) (lay_q K c j (n, am, he, sa, ro, fa, kd, sp, hu, be, ea) 2 (by omega) (by decide) rfl : layC K (wS c j (n, am, he, sa, ro, fa, kd, sp, hu, be, ea)) (6 * j + 15) = .inl (kI K, 7, .inl (aI sp))) h0 h1 (by decide) hd k
theorem s_st_sp {K : zK} {X : zX} {cc : ByteArray} {own : String} {ret : Option FieldType} {nL f pc : Nat} {lo : List (Nat × Value)} {st : List Value} {z x : Int} {c : CS} {j : Nat} {n am he sa ro fa : Int} {kd sp hu be ea : Int → Int} (O : zO K X cc own ret nL f) (hN : kN K = 85) (hj : j < 12) (h0 : 0 ≤ z) (h1 : z < 7) (hd : decode cc pc = .ok (.iastore, 1)) (k : G K X nL (pc + 1) lo st (layC K (wS c j (n, am, he, sa, ro, fa, kd, uI sp z x, hu, be, ea)))) : G K X nL pc lo (.int (iI x) :: .int (iI z) :: .ref (kad K (6 * j + 15)) :: st) (layC K (wS c j (n, am, he, sa, ro, fa, kd, sp, hu, be, ea))) := by
  refine r_iast O (by rw [hN]; omega) (lay_q K c j (n, am, he, sa, ro, fa, kd, sp, hu, be, ea) 2 (by omega) (by decide) rfl : layC K (wS c j (n, am, he, sa, ro, fa, kd, sp, hu, be, ea)) (6 * j + 15) = .inl (kI K, 7, .inl (aI sp))) h0 h1 (by decide) hd ?_
  exact G_ct (lay_up K c j (n, am, he, sa, ro, fa, kd, sp, hu, be, ea) (n, am, he, sa, ro, fa, kd, uI sp z x, hu, be, ea) 2 (by omega) (by decide) _ rfl (six (fun _ => by simp only [sitE, qn, qam, qhe, qsa, qro, qfa, qkd, qsp, qhu, qbe, qea]) (fun _ => by simp only [sitE, qn, qam, qhe, qsa, qro, qfa, qkd, qsp, qhu, qbe, qea]) (fun h => absurd rfl h) (fun _ => by simp only [sitE, qn, qam, qhe, qsa, qro, qfa, qkd, qsp, qhu, qbe, qea]) (fun _ => by simp only [sitE, qn, qam, qhe, qsa, qro, qfa, qkd, qsp, qhu, qbe, qea]) (fun _ => by simp only [sitE, qn, qam, qhe, qsa, qro, qfa, qkd, qsp, qhu, qbe, qea]))) k
theorem s_len_sp {K : zK} {X : zX} {cc : ByteArray} {own : String} {ret : Option FieldType} {nL f pc : Nat} {lo : List (Nat × Value)} {st : List Value} {v : SV} {c : CS} {j : Nat} (O : zO K X cc own ret nL f) (hN : kN K = 85) (hj : j < 12) (hd : decode cc pc = .ok (.arraylength, 1)) (k : G K X nL (pc + 1) lo (.int (iI 7) :: st) (layC K (wS c j v))) : G K X nL pc lo (.ref (kad K (6 * j + 15)) :: st) (layC K (wS c j v)) :=
  r_alen (n := 7) O (by rw [hN]; omega) (lay_q K c j v 2 (by omega) (by decide) rfl : layC K (wS c j v) (6 * j + 15) = .inl (kI K, 7, .inl (aI (qsp v)))) (Or.inl rfl) rfl hd k
theorem s_arr_hu {K : zK} {X : zX} {cc : ByteArray} {own : String} {ret : Option FieldType} {nL f pc : Nat} {lo : List (Nat × Value)} {st : List Value} {idx : Nat} {v : SV} {c : CS} {j : Nat} (O : zO K X cc own ret nL f) (hN : kN K = 85) (hj : j < 12) (hw : Cond.fieldLink own idx RX3 (TX3 2).2.1 (TX3 2).2.2.1 ∈ zTB) (hd : decode cc pc = .ok (.getfield idx, 3)) (k : G K X nL (pc + 3) lo (.ref (kad K (6 * j + 16)) :: st) (layC K (wS c j v))) : G K X nL pc lo (.ref (kad K (6 * j + 13)) :: st) (layC K (wS c j v)) :=
  r_get O (by rw [hN]; omega) (lay_q K c j v 0 (by omega) (by decide) rfl) zCl3 hw (by decide) rfl hd k
theorem s_ld_hu {K : zK} {X : zX} {cc : ByteArray} {own : String} {ret : Option FieldType} {nL f pc : Nat} {lo : List (Nat × Value)} {st : List Value} {z : Int} {c : CS} {j : Nat} {n am he sa ro fa : Int} {kd sp hu be ea : Int → Int} (O : zO K X cc own ret nL f) (hN : kN K = 85) (hj : j < 12) (h0 : 0 ≤ z) (h1 : z < 7) (hd : decode cc pc = .ok (.iaload, 1)) (k : G K X nL (pc + 1) lo (.int (iI (hu z)) :: st) (layC K (wS c j (n, am, he, sa, ro, fa, kd, sp, hu, be, ea)))) : G K X nL pc lo (.int (iI z) :: .ref (kad K (6 * j + 16)) :: st) (layC K (wS c j (n, am, he, sa, ro, fa, kd, sp, hu, be, ea))) :=
  r_iald O (by rw [hN]; omega) (lay_q K c j (n, am, he, sa, ro, fa, kd, sp, hu, be, ea) 3 (by omega) (by decide) rfl : layC K (wS c j (n, am, he, sa, ro, fa, kd, sp, hu, be, ea)) (6 * j + 16) = .inl (kI K, 7, .inl (aI hu))) h0 h1 (by decide) hd k
theorem s_st_hu {K : zK} {X : zX} {cc : ByteArray} {own : String} {ret : Option FieldType} {nL f pc : Nat} {lo : List (Nat × Value)} {st : List Value} {z x : Int} {c : CS} {j : Nat} {n am he sa ro fa : Int} {kd sp hu be ea : Int → Int} (O : zO K X cc own ret nL f) (hN : kN K = 85) (hj : j < 12) (h0 : 0 ≤ z) (h1 : z < 7) (hd : decode cc pc = .ok (.iastore, 1)) (k : G K X nL (pc + 1) lo st (layC K (wS c j (n, am, he, sa, ro, fa, kd, sp, uI hu z x, be, ea)))) : G K X nL pc lo (.int (iI x) :: .int (iI z) :: .ref (kad K (6 * j + 16)) :: st) (layC K (wS c j (n, am, he, sa, ro, fa, kd, sp, hu, be, ea))) := by
  refine r_iast O (by rw [hN]; omega) (lay_q K c j (n, am, he, sa, ro, fa, kd, sp, hu, be, ea) 3 (by omega) (by decide) rfl : layC K (wS c j (n, am, he, sa, ro, fa, kd, sp, hu, be, ea)) (6 * j + 16) = .inl (kI K, 7, .inl (aI hu))) h0 h1 (by decide) hd ?_
  exact G_ct (lay_up K c j (n, am, he, sa, ro, fa, kd, sp, hu, be, ea) (n, am, he, sa, ro, fa, kd, sp, uI hu z x, be, ea) 3 (by omega) (by decide) _ rfl (six (fun _ => by simp only [sitE, qn, qam, qhe, qsa, qro, qfa, qkd, qsp, qhu, qbe, qea]) (fun _ => by simp only [sitE, qn, qam, qhe, qsa, qro, qfa, qkd, qsp, qhu, qbe, qea]) (fun _ => by simp only [sitE, qn, qam, qhe, qsa, qro, qfa, qkd, qsp, qhu, qbe, qea]) (fun h => absurd rfl h) (fun _ => by simp only [sitE, qn, qam, qhe, qsa, qro, qfa, qkd, qsp, qhu, qbe, qea]) (fun _ => by simp only [sitE, qn, qam, qhe, qsa, qro, qfa, qkd, qsp, qhu, qbe, qea]))) k
theorem s_len_hu {K : zK} {X : zX} {cc : ByteArray} {own : String} {ret : Option FieldType} {nL f pc : Nat} {lo : List (Nat × Value)} {st : List Value} {v : SV} {c : CS} {j : Nat} (O : zO K X cc own ret nL f) (hN : kN K = 85) (hj : j < 12) (hd : decode cc pc = .ok (.arraylength, 1)) (k : G K X nL (pc + 1) lo (.int (iI 7) :: st) (layC K (wS c j v))) : G K X nL pc lo (.ref (kad K (6 * j + 16)) :: st) (layC K (wS c j v)) :=
  r_alen (n := 7) O (by rw [hN]; omega) (lay_q K c j v 3 (by omega) (by decide) rfl : layC K (wS c j v) (6 * j + 16) = .inl (kI K, 7, .inl (aI (qhu v)))) (Or.inl rfl) rfl hd k
theorem s_arr_be {K : zK} {X : zX} {cc : ByteArray} {own : String} {ret : Option FieldType} {nL f pc : Nat} {lo : List (Nat × Value)} {st : List Value} {idx : Nat} {v : SV} {c : CS} {j : Nat} (O : zO K X cc own ret nL f) (hN : kN K = 85) (hj : j < 12) (hw : Cond.fieldLink own idx RX3 (TX3 3).2.1 (TX3 3).2.2.1 ∈ zTB) (hd : decode cc pc = .ok (.getfield idx, 3)) (k : G K X nL (pc + 3) lo (.ref (kad K (6 * j + 17)) :: st) (layC K (wS c j v))) : G K X nL pc lo (.ref (kad K (6 * j + 13)) :: st) (layC K (wS c j v)) :=
  r_get O (by rw [hN]; omega) (lay_q K c j v 0 (by omega) (by decide) rfl) zCl3 hw (by decide) rfl hd k
theorem s_ld_be {K : zK} {X : zX} {cc : ByteArray} {own : String} {ret : Option FieldType} {nL f pc : Nat} {lo : List (Nat × Value)} {st : List Value} {z : Int} {c : CS} {j : Nat} {n am he sa ro fa : Int} {kd sp hu be ea : Int → Int} (O : zO K X cc own ret nL f) (hN : kN K = 85) (hj : j < 12) (h0 : 0 ≤ z) (h1 : z < 7) (hd : decode cc pc = .ok (.iaload, 1)) (k : G K X nL (pc + 1) lo (.int (iI (be z)) :: st) (layC K (wS c j (n, am, he, sa, ro, fa, kd, sp, hu, be, ea)))) : G K X nL pc lo (.int (iI z) :: .ref (kad K (6 * j + 17)) :: st) (layC K (wS c j (n, am, he, sa, ro, fa, kd, sp, hu, be, ea))) :=
  r_iald O (by rw [hN]; omega) (lay_q K c j (n, am, he, sa, ro, fa, kd, sp, hu, be, ea) 4 (by omega) (by decide) rfl : layC K (wS c j (n, am, he, sa, ro, fa, kd, sp, hu, be, ea)) (6 * j + 17) = .inl (kI K, 7, .inl (aI be))) h0 h1 (by decide) hd k
theorem s_st_be {K : zK} {X : zX} {cc : ByteArray} {own : String} {ret : Option FieldType} {nL f pc : Nat} {lo : List (Nat × Value)} {st : List Value} {z x : Int} {c : CS} {j : Nat} {n am he sa ro fa : Int} {kd sp hu be ea : Int → Int} (O : zO K X cc own ret nL f) (hN : kN K = 85) (hj : j < 12) (h0 : 0 ≤ z) (h1 : z < 7) (hd : decode cc pc = .ok (.iastore, 1)) (k : G K X nL (pc + 1) lo st (layC K (wS c j (n, am, he, sa, ro, fa, kd, sp, hu, uI be z x, ea)))) : G K X nL pc lo (.int (iI x) :: .int (iI z) :: .ref (kad K (6 * j + 17)) :: st) (layC K (wS c j (n, am, he, sa, ro, fa, kd, sp, hu, be, ea))) := by
  refine r_iast O (by rw [hN]; omega) (lay_q K c j (n, am, he, sa, ro, fa, kd, sp, hu, be, ea) 4 (by omega) (by decide) rfl : layC K (wS c j (n, am, he, sa, ro, fa, kd, sp, hu, be, ea)) (6 * j + 17) = .inl (kI K, 7, .inl (aI be))) h0 h1 (by decide) hd ?_
  exact G_ct (lay_up K c j (n, am, he, sa, ro, fa, kd, sp, hu, be, ea) (n, am, he, sa, ro, fa, kd, sp, hu, uI be z x, ea) 4 (by omega) (by decide) _ rfl (six (fun _ => by simp only [sitE, qn, qam, qhe, qsa, qro, qfa, qkd, qsp, qhu, qbe, qea]) (fun _ => by simp only [sitE, qn, qam, qhe, qsa, qro, qfa, qkd, qsp, qhu, qbe, qea]) (fun _ => by simp only [sitE, qn, qam, qhe, qsa, qro, qfa, qkd, qsp, qhu, qbe, qea]) (fun _ => by simp only [sitE, qn, qam, qhe, qsa, qro, qfa, qkd, qsp, qhu, qbe, qea]) (fun h => absurd rfl h) (fun _ => by simp only [sitE, qn, qam, qhe, qsa, qro, qfa, qkd, qsp, qhu, qbe, qea]))) k
theorem s_len_be {K : zK} {X : zX} {cc : ByteArray} {own : String} {ret : Option FieldType} {nL f pc : Nat} {lo : List (Nat × Value)} {st : List Value} {v : SV} {c : CS} {j : Nat} (O : zO K X cc own ret nL f) (hN : kN K = 85) (hj : j < 12) (hd : decode cc pc = .ok (.arraylength, 1)) (k : G K X nL (pc + 1) lo (.int (iI 7) :: st) (layC K (wS c j v))) : G K X nL pc lo (.ref (kad K (6 * j + 17)) :: st) (layC K (wS c j v)) :=
  r_alen (n := 7) O (by rw [hN]; omega) (lay_q K c j v 4 (by omega) (by decide) rfl : layC K (wS c j v) (6 * j + 17) = .inl (kI K, 7, .inl (aI (qbe v)))) (Or.inl rfl) rfl hd k
theorem s_arr_ea {K : zK} {X : zX} {cc : ByteArray} {own : String} {ret : Option FieldType} {nL f pc : Nat} {lo : List (Nat × Value)} {st : List Value} {idx : Nat} {v : SV} {c : CS} {j : Nat} (O : zO K X cc own ret nL f) (hN : kN K = 85) (hj : j < 12) (hw : Cond.fieldLink own idx RX3 (TX3 4).2.1 (TX3 4).2.2.1 ∈ zTB) (hd : decode cc pc = .ok (.getfield idx, 3)) (k : G K X nL (pc + 3) lo (.ref (kad K (6 * j + 18)) :: st) (layC K (wS c j v))) : G K X nL pc lo (.ref (kad K (6 * j + 13)) :: st) (layC K (wS c j v)) :=
  r_get O (by rw [hN]; omega) (lay_q K c j v 0 (by omega) (by decide) rfl) zCl3 hw (by decide) rfl hd k
theorem s_ld_ea {K : zK} {X : zX} {cc : ByteArray} {own : String} {ret : Option FieldType} {nL f pc : Nat} {lo : List (Nat × Value)} {st : List Value} {z : Int} {c : CS} {j : Nat} {n am he sa ro fa : Int} {kd sp hu be ea : Int → Int} (O : zO K X cc own ret nL f) (hN : kN K = 85) (hj : j < 12) (h0 : 0 ≤ z) (h1 : z < 7) (hd : decode cc pc = .ok (.iaload, 1)) (k : G K X nL (pc + 1) lo (.int (iI (ea z)) :: st) (layC K (wS c j (n, am, he, sa, ro, fa, kd, sp, hu, be, ea)))) : G K X nL pc lo (.int (iI z) :: .ref (kad K (6 * j + 18)) :: st) (layC K (wS c j (n, am, he, sa, ro, fa, kd, sp, hu, be, ea))) :=
  r_iald O (by rw [hN]; omega) (lay_q K c j (n, am, he, sa, ro, fa, kd, sp, hu, be, ea) 5 (by omega) (by decide) rfl : layC K (wS c j (n, am, he, sa, ro, fa, kd, sp, hu, be, ea)) (6 * j + 18) = .inl (kI K, 7, .inl (aI ea))) h0 h1 (by decide) hd k
theorem s_st_ea {K : zK} {X : zX} {cc : ByteArray} {own : String} {ret : Option FieldType} {nL f pc : Nat} {lo : List (Nat × Value)} {st : List Value} {z x : Int} {c : CS} {j : Nat} {n am he sa ro fa : Int} {kd sp hu be ea : Int → Int} (O : zO K X cc own ret nL f) (hN : kN K = 85) (hj : j < 12) (h0 : 0 ≤ z) (h1 : z < 7) (hd : decode cc pc = .ok (.iastore, 1)) (k : G K X nL (pc + 1) lo st (layC K (wS c j (n, am, he, sa, ro, fa, kd, sp, hu, be, uI ea z x)))) : G K X nL pc lo (.int (iI x) :: .int (iI z) :: .ref (kad K (6 * j + 18)) :: st) (layC K (wS c j (n, am, he, sa, ro, fa, kd, sp, hu, be, ea))) := by
  refine r_iast O (by rw [hN]; omega) (lay_q K c j (n, am, he, sa, ro, fa, kd, sp, hu, be, ea) 5 (by omega) (by decide) rfl : layC K (wS c j (n, am, he, sa, ro, fa, kd, sp, hu, be, ea)) (6 * j + 18) = .inl (kI K, 7, .inl (aI ea))) h0 h1 (by decide) hd ?_
  exact G_ct (lay_up K c j (n, am, he, sa, ro, fa, kd, sp, hu, be, ea) (n, am, he, sa, ro, fa, kd, sp, hu, be, uI ea z x) 5 (by omega) (by decide) _ rfl (six (fun _ => by simp only [sitE, qn, qam, qhe, qsa, qro, qfa, qkd, qsp, qhu, qbe, qea]) (fun _ => by simp only [sitE, qn, qam, qhe, qsa, qro, qfa, qkd, qsp, qhu, qbe, qea]) (fun _ => by simp only [sitE, qn, qam, qhe, qsa, qro, qfa, qkd, qsp, qhu, qbe, qea]) (fun _ => by simp only [sitE, qn, qam, qhe, qsa, qro, qfa, qkd, qsp, qhu, qbe, qea]) (fun _ => by simp only [sitE, qn, qam, qhe, qsa, qro, qfa, qkd, qsp, qhu, qbe, qea]) (fun h => absurd rfl h))) k
theorem s_len_ea {K : zK} {X : zX} {cc : ByteArray} {own : String} {ret : Option FieldType} {nL f pc : Nat} {lo : List (Nat × Value)} {st : List Value} {v : SV} {c : CS} {j : Nat} (O : zO K X cc own ret nL f) (hN : kN K = 85) (hj : j < 12) (hd : decode cc pc = .ok (.arraylength, 1)) (k : G K X nL (pc + 1) lo (.int (iI 7) :: st) (layC K (wS c j v))) : G K X nL pc lo (.ref (kad K (6 * j + 18)) :: st) (layC K (wS c j v)) :=
  r_alen (n := 7) O (by rw [hN]; omega) (lay_q K c j v 5 (by omega) (by decide) rfl : layC K (wS c j v) (6 * j + 18) = .inl (kI K, 7, .inl (aI (qea v)))) (Or.inl rfl) rfl hd k
theorem t_get_n {K : zK} {X : zX} {cc : ByteArray} {own : String} {ret : Option FieldType} {nL f pc : Nat} {lo : List (Nat × Value)} {st : List Value} {idx : Nat} {c : CS} {j : Nat} (O : zO K X cc own ret nL f) (hN : kN K = 85) (hj : j < 12) (hw : Cond.fieldLink own idx RX3 (TX3 5).2.1 (TX3 5).2.2.1 ∈ zTB) (hd : decode cc pc = .ok (.getfield idx, 3)) (k : G K X nL (pc + 3) lo (.int (iI (qn (c.1 j))) :: st) (layC K c)) : G K X nL pc lo (.ref (kad K (6 * j + 13)) :: st) (layC K c) :=
  r_get O (by rw [hN]; omega) (lay_j0 K c j) zCl3 hw (by decide) rfl hd k
theorem v_get_n {K : zK} {X : zX} {cc : ByteArray} {own : String} {ret : Option FieldType} {nL f pc : Nat} {lo : List (Nat × Value)} {st : List Value} {idx : Nat} {c : CS} {j : Nat} {v : SV} (O : zO K X cc own ret nL f) (hN : kN K = 85) (hj : j < 12) (hw : Cond.fieldLink own idx RX3 (TX3 5).2.1 (TX3 5).2.2.1 ∈ zTB) (hd : decode cc pc = .ok (.getfield idx, 3)) (k : G K X nL (pc + 3) lo (.int (iI (qn v)) :: st) (layC K (wS c j v))) : G K X nL pc lo (.ref (kad K (6 * j + 13)) :: st) (layC K (wS c j v)) := by
  refine t_get_n O hN hj hw hd ?_
  rw [wS_s]
  exact k
theorem o_get_n {K : zK} {X : zX} {cc : ByteArray} {own : String} {ret : Option FieldType} {nL f pc : Nat} {lo : List (Nat × Value)} {st : List Value} {idx : Nat} {c : CS} {j i : Nat} {v u : SV} (O : zO K X cc own ret nL f) (hN : kN K = 85) (hi : i < 12) (hne : i ≠ j) (hcu : c.1 i = u) (hw : Cond.fieldLink own idx RX3 (TX3 5).2.1 (TX3 5).2.2.1 ∈ zTB) (hd : decode cc pc = .ok (.getfield idx, 3)) (k : G K X nL (pc + 3) lo (.int (iI (qn u)) :: st) (layC K (wS c j v))) : G K X nL pc lo (.ref (kad K (6 * i + 13)) :: st) (layC K (wS c j v)) := by
  refine t_get_n O hN hi hw hd ?_
  rw [wS_n c v hne, hcu]
  exact k
theorem t_get_am {K : zK} {X : zX} {cc : ByteArray} {own : String} {ret : Option FieldType} {nL f pc : Nat} {lo : List (Nat × Value)} {st : List Value} {idx : Nat} {c : CS} {j : Nat} (O : zO K X cc own ret nL f) (hN : kN K = 85) (hj : j < 12) (hw : Cond.fieldLink own idx RX3 (TX3 6).2.1 (TX3 6).2.2.1 ∈ zTB) (hd : decode cc pc = .ok (.getfield idx, 3)) (k : G K X nL (pc + 3) lo (.int (iI (qam (c.1 j))) :: st) (layC K c)) : G K X nL pc lo (.ref (kad K (6 * j + 13)) :: st) (layC K c) :=
  r_get O (by rw [hN]; omega) (lay_j0 K c j) zCl3 hw (by decide) rfl hd k
theorem v_get_am {K : zK} {X : zX} {cc : ByteArray} {own : String} {ret : Option FieldType} {nL f pc : Nat} {lo : List (Nat × Value)} {st : List Value} {idx : Nat} {c : CS} {j : Nat} {v : SV} (O : zO K X cc own ret nL f) (hN : kN K = 85) (hj : j < 12) (hw : Cond.fieldLink own idx RX3 (TX3 6).2.1 (TX3 6).2.2.1 ∈ zTB) (hd : decode cc pc = .ok (.getfield idx, 3)) (k : G K X nL (pc + 3) lo (.int (iI (qam v)) :: st) (layC K (wS c j v))) : G K X nL pc lo (.ref (kad K (6 * j + 13)) :: st) (layC K (wS c j v)) := by
  refine t_get_am O hN hj hw hd ?_
  rw [wS_s]
  exact k
theorem o_get_am {K : zK} {X : zX} {cc : ByteArray} {own : String} {ret : Option FieldType} {nL f pc : Nat} {lo : List (Nat × Value)} {st : List Value} {idx : Nat} {c : CS} {j i : Nat} {v u : SV} (O : zO K X cc own ret nL f) (hN : kN K = 85) (hi : i < 12) (hne : i ≠ j) (hcu : c.1 i = u) (hw : Cond.fieldLink own idx RX3 (TX3 6).2.1 (TX3 6).2.2.1 ∈ zTB) (hd : decode cc pc = .ok (.getfield idx, 3)) (k : G K X nL (pc + 3) lo (.int (iI (qam u)) :: st) (layC K (wS c j v))) : G K X nL pc lo (.ref (kad K (6 * i + 13)) :: st) (layC K (wS c j v)) := by
  refine t_get_am O hN hi hw hd ?_
  rw [wS_n c v hne, hcu]
  exact k
theorem t_get_he {K : zK} {X : zX} {cc : ByteArray} {own : String} {ret : Option FieldType} {nL f pc : Nat} {lo : List (Nat × Value)} {st : List Value} {idx : Nat} {c : CS} {j : Nat} (O : zO K X cc own ret nL f) (hN : kN K = 85) (hj : j < 12) (hw : Cond.fieldLink own idx RX3 (TX3 7).2.1 (TX3 7).2.2.1 ∈ zTB) (hd : decode cc pc = .ok (.getfield idx, 3)) (k : G K X nL (pc + 3) lo (.int (iI (qhe (c.1 j))) :: st) (layC K c)) : G K X nL pc lo (.ref (kad K (6 * j + 13)) :: st) (layC K c) :=
  r_get O (by rw [hN]; omega) (lay_j0 K c j) zCl3 hw (by decide) rfl hd k
theorem v_get_he {K : zK} {X : zX} {cc : ByteArray} {own : String} {ret : Option FieldType} {nL f pc : Nat} {lo : List (Nat × Value)} {st : List Value} {idx : Nat} {c : CS} {j : Nat} {v : SV} (O : zO K X cc own ret nL f) (hN : kN K = 85) (hj : j < 12) (hw : Cond.fieldLink own idx RX3 (TX3 7).2.1 (TX3 7).2.2.1 ∈ zTB) (hd : decode cc pc = .ok (.getfield idx, 3)) (k : G K X nL (pc + 3) lo (.int (iI (qhe v)) :: st) (layC K (wS c j v))) : G K X nL pc lo (.ref (kad K (6 * j + 13)) :: st) (layC K (wS c j v)) := by
  refine t_get_he O hN hj hw hd ?_
  rw [wS_s]
  exact k
theorem o_get_he {K : zK} {X : zX} {cc : ByteArray} {own : String} {ret : Option FieldType} {nL f pc : Nat} {lo : List (Nat × Value)} {st : List Value} {idx : Nat} {c : CS} {j i : Nat} {v u : SV} (O : zO K X cc own ret nL f) (hN : kN K = 85) (hi : i < 12) (hne : i ≠ j) (hcu : c.1 i = u) (hw : Cond.fieldLink own idx RX3 (TX3 7).2.1 (TX3 7).2.2.1 ∈ zTB) (hd : decode cc pc = .ok (.getfield idx, 3)) (k : G K X nL (pc + 3) lo (.int (iI (qhe u)) :: st) (layC K (wS c j v))) : G K X nL pc lo (.ref (kad K (6 * i + 13)) :: st) (layC K (wS c j v)) := by
  refine t_get_he O hN hi hw hd ?_
  rw [wS_n c v hne, hcu]
  exact k
theorem t_get_sa {K : zK} {X : zX} {cc : ByteArray} {own : String} {ret : Option FieldType} {nL f pc : Nat} {lo : List (Nat × Value)} {st : List Value} {idx : Nat} {c : CS} {j : Nat} (O : zO K X cc own ret nL f) (hN : kN K = 85) (hj : j < 12) (hw : Cond.fieldLink own idx RX3 (TX3 8).2.1 (TX3 8).2.2.1 ∈ zTB) (hd : decode cc pc = .ok (.getfield idx, 3)) (k : G K X nL (pc + 3) lo (.int (iI (qsa (c.1 j))) :: st) (layC K c)) : G K X nL pc lo (.ref (kad K (6 * j + 13)) :: st) (layC K c) :=
  r_get O (by rw [hN]; omega) (lay_j0 K c j) zCl3 hw (by decide) rfl hd k
theorem v_get_sa {K : zK} {X : zX} {cc : ByteArray} {own : String} {ret : Option FieldType} {nL f pc : Nat} {lo : List (Nat × Value)} {st : List Value} {idx : Nat} {c : CS} {j : Nat} {v : SV} (O : zO K X cc own ret nL f) (hN : kN K = 85) (hj : j < 12) (hw : Cond.fieldLink own idx RX3 (TX3 8).2.1 (TX3 8).2.2.1 ∈ zTB) (hd : decode cc pc = .ok (.getfield idx, 3)) (k : G K X nL (pc + 3) lo (.int (iI (qsa v)) :: st) (layC K (wS c j v))) : G K X nL pc lo (.ref (kad K (6 * j + 13)) :: st) (layC K (wS c j v)) := by
  refine t_get_sa O hN hj hw hd ?_
  rw [wS_s]
  exact k
theorem o_get_sa {K : zK} {X : zX} {cc : ByteArray} {own : String} {ret : Option FieldType} {nL f pc : Nat} {lo : List (Nat × Value)} {st : List Value} {idx : Nat} {c : CS} {j i : Nat} {v u : SV} (O : zO K X cc own ret nL f) (hN : kN K = 85) (hi : i < 12) (hne : i ≠ j) (hcu : c.1 i = u) (hw : Cond.fieldLink own idx RX3 (TX3 8).2.1 (TX3 8).2.2.1 ∈ zTB) (hd : decode cc pc = .ok (.getfield idx, 3)) (k : G K X nL (pc + 3) lo (.int (iI (qsa u)) :: st) (layC K (wS c j v))) : G K X nL pc lo (.ref (kad K (6 * i + 13)) :: st) (layC K (wS c j v)) := by
  refine t_get_sa O hN hi hw hd ?_
  rw [wS_n c v hne, hcu]
  exact k
theorem t_get_ro {K : zK} {X : zX} {cc : ByteArray} {own : String} {ret : Option FieldType} {nL f pc : Nat} {lo : List (Nat × Value)} {st : List Value} {idx : Nat} {c : CS} {j : Nat} (O : zO K X cc own ret nL f) (hN : kN K = 85) (hj : j < 12) (hw : Cond.fieldLink own idx RX3 (TX3 9).2.1 (TX3 9).2.2.1 ∈ zTB) (hd : decode cc pc = .ok (.getfield idx, 3)) (k : G K X nL (pc + 3) lo (.int (iI (qro (c.1 j))) :: st) (layC K c)) : G K X nL pc lo (.ref (kad K (6 * j + 13)) :: st) (layC K c) :=
  r_get O (by rw [hN]; omega) (lay_j0 K c j) zCl3 hw (by decide) rfl hd k
theorem v_get_ro {K : zK} {X : zX} {cc : ByteArray} {own : String} {ret : Option FieldType} {nL f pc : Nat} {lo : List (Nat × Value)} {st : List Value} {idx : Nat} {c : CS} {j : Nat} {v : SV} (O : zO K X cc own ret nL f) (hN : kN K = 85) (hj : j < 12) (hw : Cond.fieldLink own idx RX3 (TX3 9).2.1 (TX3 9).2.2.1 ∈ zTB) (hd : decode cc pc = .ok (.getfield idx, 3)) (k : G K X nL (pc + 3) lo (.int (iI (qro v)) :: st) (layC K (wS c j v))) : G K X nL pc lo (.ref (kad K (6 * j + 13)) :: st) (layC K (wS c j v)) := by
  refine t_get_ro O hN hj hw hd ?_
  rw [wS_s]
  exact k
theorem o_get_ro {K : zK} {X : zX} {cc : ByteArray} {own : String} {ret : Option FieldType} {nL f pc : Nat} {lo : List (Nat × Value)} {st : List Value} {idx : Nat} {c : CS} {j i : Nat} {v u : SV} (O : zO K X cc own ret nL f) (hN : kN K = 85) (hi : i < 12) (hne : i ≠ j) (hcu : c.1 i = u) (hw : Cond.fieldLink own idx RX3 (TX3 9).2.1 (TX3 9).2.2.1 ∈ zTB) (hd : decode cc pc = .ok (.getfield idx, 3)) (k : G K X nL (pc + 3) lo (.int (iI (qro u)) :: st) (layC K (wS c j v))) : G K X nL pc lo (.ref (kad K (6 * i + 13)) :: st) (layC K (wS c j v)) := by
  refine t_get_ro O hN hi hw hd ?_
  rw [wS_n c v hne, hcu]
  exact k
theorem t_get_fa {K : zK} {X : zX} {cc : ByteArray} {own : String} {ret : Option FieldType} {nL f pc : Nat} {lo : List (Nat × Value)} {st : List Value} {idx : Nat} {c : CS} {j : Nat} (O : zO K X cc own ret nL f) (hN : kN K = 85) (hj : j < 12) (hw : Cond.fieldLink own idx RX3 (TX3 10).2.1 (TX3 10).2.2.1 ∈ zTB) (hd : decode cc pc = .ok (.getfield idx, 3)) (k : G K X nL (pc + 3) lo (.int (iI (qfa (c.1 j))) :: st) (layC K c)) : G K X nL pc lo (.ref (kad K (6 * j + 13)) :: st) (layC K c) :=
  r_get O (by rw [hN]; omega) (lay_j0 K c j) zCl3 hw (by decide) rfl hd k
theorem v_get_fa {K : zK} {X : zX} {cc : ByteArray} {own : String} {ret : Option FieldType} {nL f pc : Nat} {lo : List (Nat × Value)} {st : List Value} {idx : Nat} {c : CS} {j : Nat} {v : SV} (O : zO K X cc own ret nL f) (hN : kN K = 85) (hj : j < 12) (hw : Cond.fieldLink own idx RX3 (TX3 10).2.1 (TX3 10).2.2.1 ∈ zTB) (hd : decode cc pc = .ok (.getfield idx, 3)) (k : G K X nL (pc + 3) lo (.int (iI (qfa v)) :: st) (layC K (wS c j v))) : G K X nL pc lo (.ref (kad K (6 * j + 13)) :: st) (layC K (wS c j v)) := by
  refine t_get_fa O hN hj hw hd ?_
  rw [wS_s]
  exact k
theorem o_get_fa {K : zK} {X : zX} {cc : ByteArray} {own : String} {ret : Option FieldType} {nL f pc : Nat} {lo : List (Nat × Value)} {st : List Value} {idx : Nat} {c : CS} {j i : Nat} {v u : SV} (O : zO K X cc own ret nL f) (hN : kN K = 85) (hi : i < 12) (hne : i ≠ j) (hcu : c.1 i = u) (hw : Cond.fieldLink own idx RX3 (TX3 10).2.1 (TX3 10).2.2.1 ∈ zTB) (hd : decode cc pc = .ok (.getfield idx, 3)) (k : G K X nL (pc + 3) lo (.int (iI (qfa u)) :: st) (layC K (wS c j v))) : G K X nL pc lo (.ref (kad K (6 * i + 13)) :: st) (layC K (wS c j v)) := by
  refine t_get_fa O hN hi hw hd ?_
  rw [wS_n c v hne, hcu]
  exact k
theorem t_arr_kd {K : zK} {X : zX} {cc : ByteArray} {own : String} {ret : Option FieldType} {nL f pc : Nat} {lo : List (Nat × Value)} {st : List Value} {idx : Nat} {c : CS} {j : Nat} (O : zO K X cc own ret nL f) (hN : kN K = 85) (hj : j < 12) (hw : Cond.fieldLink own idx RX3 (TX3 0).2.1 (TX3 0).2.2.1 ∈ zTB) (hd : decode cc pc = .ok (.getfield idx, 3)) (k : G K X nL (pc + 3) lo (.ref (kad K (6 * j + 14)) :: st) (layC K c)) : G K X nL pc lo (.ref (kad K (6 * j + 13)) :: st) (layC K c) :=
  r_get O (by rw [hN]; omega) (lay_j0 K c j) zCl3 hw (by decide) rfl hd k
theorem t_ld_kd {K : zK} {X : zX} {cc : ByteArray} {own : String} {ret : Option FieldType} {nL f pc : Nat} {lo : List (Nat × Value)} {st : List Value} {z : Int} {c : CS} {j : Nat} (O : zO K X cc own ret nL f) (hN : kN K = 85) (hj : j < 12) (h0 : 0 ≤ z) (h1 : z < 7) (hd : decode cc pc = .ok (.iaload, 1)) (k : G K X nL (pc + 1) lo (.int (iI (qkd (c.1 j) z)) :: st) (layC K c)) : G K X nL pc lo (.int (iI z) :: .ref (kad K (6 * j + 14)) :: st) (layC K c) :=
  r_iald O (by rw [hN]; omega) (lay_qj K c j 1 (by omega) (by decide) rfl : layC K c (6 * j + 14) = .inl (kI K, 7, .inl (aI (qkd (c.1 j))))) h0 h1 (by decide) hd k
theorem o_copy_kd {K : zK} {X : zX} {cc : ByteArray} {own : String} {ret : Option FieldType} {nL f pc : Nat} {lo : List (Nat × Value)} {st : List Value} {idx : Nat} {c : CS} {j i : Nat} {u : SV} {n am he sa ro fa : Int} {kd sp hu be ea : Int → Int} (O : zO K X cc own ret nL f) (hN : kN K = 85) (hj : j < 12) (hi : i < 12) (hne : i ≠ j) (hcu : c.1 i = u) (hw : zCopy own idx) (hf : 1 ≤ f) (hs : (st.map fun v => v.category).sum ≤ 5) (hd : decode cc pc = .ok (.invokestatic idx, 3)) (k : G K X nL (pc + 3) lo st (layC K (wS c j (n, am, he, sa, ro, fa, cpI (qkd u) kd 7, sp, hu, be, ea)))) : G K X nL pc lo (.int (iI 7) :: .int (iI 0) :: .ref (kad K (6 * j + 14)) :: .int (iI 0) :: .ref (kad K (6 * i + 14)) :: st) (layC K (wS c j (n, am, he, sa, ro, fa, kd, sp, hu, be, ea))) := by
  refine r_copy O hw hf hs (by rw [hN]; omega) (by rw [hN]; omega) (lay_qj K _ i 1 (by omega) (by decide) (by rw [wS_n c _ hne, hcu]; rfl) : layC K (wS c j (n, am, he, sa, ro, fa, kd, sp, hu, be, ea)) (6 * i + 14) = .inl (kI K, 7, .inl (aI (qkd u)))) (lay_q K c j (n, am, he, sa, ro, fa, kd, sp, hu, be, ea) 1 (by omega) (by decide) rfl : layC K (wS c j (n, am, he, sa, ro, fa, kd, sp, hu, be, ea)) (6 * j + 14) = .inl (kI K, 7, .inl (aI kd))) (by decide) (by decide) (by decide) (by decide) hd ?_
  exact G_ct (lay_up K c j (n, am, he, sa, ro, fa, kd, sp, hu, be, ea) (n, am, he, sa, ro, fa, cpI (qkd u) kd 7, sp, hu, be, ea) 1 (by omega) (by decide) _ rfl (six (fun _ => by simp only [sitE, qn, qam, qhe, qsa, qro, qfa, qkd, qsp, qhu, qbe, qea]) (fun h => absurd rfl h) (fun _ => by simp only [sitE, qn, qam, qhe, qsa, qro, qfa, qkd, qsp, qhu, qbe, qea]) (fun _ => by simp only [sitE, qn, qam, qhe, qsa, qro, qfa, qkd, qsp, qhu, qbe, qea]) (fun _ => by simp only [sitE, qn, qam, qhe, qsa, qro, qfa, qkd, qsp, qhu, qbe, qea]) (fun _ => by simp only [sitE, qn, qam, qhe, qsa, qro, qfa, qkd, qsp, qhu, qbe, qea]))) k
theorem t_arr_sp {K : zK} {X : zX} {cc : ByteArray} {own : String} {ret : Option FieldType} {nL f pc : Nat} {lo : List (Nat × Value)} {st : List Value} {idx : Nat} {c : CS} {j : Nat} (O : zO K X cc own ret nL f) (hN : kN K = 85) (hj : j < 12) (hw : Cond.fieldLink own idx RX3 (TX3 1).2.1 (TX3 1).2.2.1 ∈ zTB) (hd : decode cc pc = .ok (.getfield idx, 3)) (k : G K X nL (pc + 3) lo (.ref (kad K (6 * j + 15)) :: st) (layC K c)) : G K X nL pc lo (.ref (kad K (6 * j + 13)) :: st) (layC K c) :=
  r_get O (by rw [hN]; omega) (lay_j0 K c j) zCl3 hw (by decide) rfl hd k
theorem t_ld_sp {K : zK} {X : zX} {cc : ByteArray} {own : String} {ret : Option FieldType} {nL f pc : Nat} {lo : List (Nat × Value)} {st : List Value} {z : Int} {c : CS} {j : Nat} (O : zO K X cc own ret nL f) (hN : kN K = 85) (hj : j < 12) (h0 : 0 ≤ z) (h1 : z < 7) (hd : decode cc pc = .ok (.iaload, 1)) (k : G K X nL (pc + 1) lo (.int (iI (qsp (c.1 j) z)) :: st) (layC K c)) : G K X nL pc lo (.int (iI z) :: .ref (kad K (6 * j + 15)) :: st) (layC K c) :=
  r_iald O (by rw [hN]; omega) (lay_qj K c j 2 (by omega) (by decide) rfl : layC K c (6 * j + 15) = .inl (kI K, 7, .inl (aI (qsp (c.1 j))))) h0 h1 (by decide) hd k
theorem o_copy_sp {K : zK} {X : zX} {cc : ByteArray} {own : String} {ret : Option FieldType} {nL f pc : Nat} {lo : List (Nat × Value)} {st : List Value} {idx : Nat} {c : CS} {j i : Nat} {u : SV} {n am he sa ro fa : Int} {kd sp hu be ea : Int → Int} (O : zO K X cc own ret nL f) (hN : kN K = 85) (hj : j < 12) (hi : i < 12) (hne : i ≠ j) (hcu : c.1 i = u) (hw : zCopy own idx) (hf : 1 ≤ f) (hs : (st.map fun v => v.category).sum ≤ 5) (hd : decode cc pc = .ok (.invokestatic idx, 3)) (k : G K X nL (pc + 3) lo st (layC K (wS c j (n, am, he, sa, ro, fa, kd, cpI (qsp u) sp 7, hu, be, ea)))) : G K X nL pc lo (.int (iI 7) :: .int (iI 0) :: .ref (kad K (6 * j + 15)) :: .int (iI 0) :: .ref (kad K (6 * i + 15)) :: st) (layC K (wS c j (n, am, he, sa, ro, fa, kd, sp, hu, be, ea))) := by
  refine r_copy O hw hf hs (by rw [hN]; omega) (by rw [hN]; omega) (lay_qj K _ i 2 (by omega) (by decide) (by rw [wS_n c _ hne, hcu]; rfl) : layC K (wS c j (n, am, he, sa, ro, fa, kd, sp, hu, be, ea)) (6 * i + 15) = .inl (kI K, 7, .inl (aI (qsp u)))) (lay_q K c j (n, am, he, sa, ro, fa, kd, sp, hu, be, ea) 2 (by omega) (by decide) rfl : layC K (wS c j (n, am, he, sa, ro, fa, kd, sp, hu, be, ea)) (6 * j + 15) = .inl (kI K, 7, .inl (aI sp))) (by decide) (by decide) (by decide) (by decide) hd ?_
  exact G_ct (lay_up K c j (n, am, he, sa, ro, fa, kd, sp, hu, be, ea) (n, am, he, sa, ro, fa, kd, cpI (qsp u) sp 7, hu, be, ea) 2 (by omega) (by decide) _ rfl (six (fun _ => by simp only [sitE, qn, qam, qhe, qsa, qro, qfa, qkd, qsp, qhu, qbe, qea]) (fun _ => by simp only [sitE, qn, qam, qhe, qsa, qro, qfa, qkd, qsp, qhu, qbe, qea]) (fun h => absurd rfl h) (fun _ => by simp only [sitE, qn, qam, qhe, qsa, qro, qfa, qkd, qsp, qhu, qbe, qea]) (fun _ => by simp only [sitE, qn, qam, qhe, qsa, qro, qfa, qkd, qsp, qhu, qbe, qea]) (fun _ => by simp only [sitE, qn, qam, qhe, qsa, qro, qfa, qkd, qsp, qhu, qbe, qea]))) k
theorem t_arr_hu {K : zK} {X : zX} {cc : ByteArray} {own : String} {ret : Option FieldType} {nL f pc : Nat} {lo : List (Nat × Value)} {st : List Value} {idx : Nat} {c : CS} {j : Nat} (O : zO K X cc own ret nL f) (hN : kN K = 85) (hj : j < 12) (hw : Cond.fieldLink own idx RX3 (TX3 2).2.1 (TX3 2).2.2.1 ∈ zTB) (hd : decode cc pc = .ok (.getfield idx, 3)) (k : G K X nL (pc + 3) lo (.ref (kad K (6 * j + 16)) :: st) (layC K c)) : G K X nL pc lo (.ref (kad K (6 * j + 13)) :: st) (layC K c) :=
  r_get O (by rw [hN]; omega) (lay_j0 K c j) zCl3 hw (by decide) rfl hd k
theorem t_ld_hu {K : zK} {X : zX} {cc : ByteArray} {own : String} {ret : Option FieldType} {nL f pc : Nat} {lo : List (Nat × Value)} {st : List Value} {z : Int} {c : CS} {j : Nat} (O : zO K X cc own ret nL f) (hN : kN K = 85) (hj : j < 12) (h0 : 0 ≤ z) (h1 : z < 7) (hd : decode cc pc = .ok (.iaload, 1)) (k : G K X nL (pc + 1) lo (.int (iI (qhu (c.1 j) z)) :: st) (layC K c)) : G K X nL pc lo (.int (iI z) :: .ref (kad K (6 * j + 16)) :: st) (layC K c) :=
  r_iald O (by rw [hN]; omega) (lay_qj K c j 3 (by omega) (by decide) rfl : layC K c (6 * j + 16) = .inl (kI K, 7, .inl (aI (qhu (c.1 j))))) h0 h1 (by decide) hd k
theorem o_copy_hu {K : zK} {X : zX} {cc : ByteArray} {own : String} {ret : Option FieldType} {nL f pc : Nat} {lo : List (Nat × Value)} {st : List Value} {idx : Nat} {c : CS} {j i : Nat} {u : SV} {n am he sa ro fa : Int} {kd sp hu be ea : Int → Int} (O : zO K X cc own ret nL f) (hN : kN K = 85) (hj : j < 12) (hi : i < 12) (hne : i ≠ j) (hcu : c.1 i = u) (hw : zCopy own idx) (hf : 1 ≤ f) (hs : (st.map fun v => v.category).sum ≤ 5) (hd : decode cc pc = .ok (.invokestatic idx, 3)) (k : G K X nL (pc + 3) lo st (layC K (wS c j (n, am, he, sa, ro, fa, kd, sp, cpI (qhu u) hu 7, be, ea)))) : G K X nL pc lo (.int (iI 7) :: .int (iI 0) :: .ref (kad K (6 * j + 16)) :: .int (iI 0) :: .ref (kad K (6 * i + 16)) :: st) (layC K (wS c j (n, am, he, sa, ro, fa, kd, sp, hu, be, ea))) := by
  refine r_copy O hw hf hs (by rw [hN]; omega) (by rw [hN]; omega) (lay_qj K _ i 3 (by omega) (by decide) (by rw [wS_n c _ hne, hcu]; rfl) : layC K (wS c j (n, am, he, sa, ro, fa, kd, sp, hu, be, ea)) (6 * i + 16) = .inl (kI K, 7, .inl (aI (qhu u)))) (lay_q K c j (n, am, he, sa, ro, fa, kd, sp, hu, be, ea) 3 (by omega) (by decide) rfl : layC K (wS c j (n, am, he, sa, ro, fa, kd, sp, hu, be, ea)) (6 * j + 16) = .inl (kI K, 7, .inl (aI hu))) (by decide) (by decide) (by decide) (by decide) hd ?_
  exact G_ct (lay_up K c j (n, am, he, sa, ro, fa, kd, sp, hu, be, ea) (n, am, he, sa, ro, fa, kd, sp, cpI (qhu u) hu 7, be, ea) 3 (by omega) (by decide) _ rfl (six (fun _ => by simp only [sitE, qn, qam, qhe, qsa, qro, qfa, qkd, qsp, qhu, qbe, qea]) (fun _ => by simp only [sitE, qn, qam, qhe, qsa, qro, qfa, qkd, qsp, qhu, qbe, qea]) (fun _ => by simp only [sitE, qn, qam, qhe, qsa, qro, qfa, qkd, qsp, qhu, qbe, qea]) (fun h => absurd rfl h) (fun _ => by simp only [sitE, qn, qam, qhe, qsa, qro, qfa, qkd, qsp, qhu, qbe, qea]) (fun _ => by simp only [sitE, qn, qam, qhe, qsa, qro, qfa, qkd, qsp, qhu, qbe, qea]))) k
theorem t_arr_be {K : zK} {X : zX} {cc : ByteArray} {own : String} {ret : Option FieldType} {nL f pc : Nat} {lo : List (Nat × Value)} {st : List Value} {idx : Nat} {c : CS} {j : Nat} (O : zO K X cc own ret nL f) (hN : kN K = 85) (hj : j < 12) (hw : Cond.fieldLink own idx RX3 (TX3 3).2.1 (TX3 3).2.2.1 ∈ zTB) (hd : decode cc pc = .ok (.getfield idx, 3)) (k : G K X nL (pc + 3) lo (.ref (kad K (6 * j + 17)) :: st) (layC K c)) : G K X nL pc lo (.ref (kad K (6 * j + 13)) :: st) (layC K c) :=
  r_get O (by rw [hN]; omega) (lay_j0 K c j) zCl3 hw (by decide) rfl hd k
theorem t_ld_be {K : zK} {X : zX} {cc : ByteArray} {own : String} {ret : Option FieldType} {nL f pc : Nat} {lo : List (Nat × Value)} {st : List Value} {z : Int} {c : CS} {j : Nat} (O : zO K X cc own ret nL f) (hN : kN K = 85) (hj : j < 12) (h0 : 0 ≤ z) (h1 : z < 7) (hd : decode cc pc = .ok (.iaload, 1)) (k : G K X nL (pc + 1) lo (.int (iI (qbe (c.1 j) z)) :: st) (layC K c)) : G K X nL pc lo (.int (iI z) :: .ref (kad K (6 * j + 17)) :: st) (layC K c) :=
  r_iald O (by rw [hN]; omega) (lay_qj K c j 4 (by omega) (by decide) rfl : layC K c (6 * j + 17) = .inl (kI K, 7, .inl (aI (qbe (c.1 j))))) h0 h1 (by decide) hd k
theorem o_copy_be {K : zK} {X : zX} {cc : ByteArray} {own : String} {ret : Option FieldType} {nL f pc : Nat} {lo : List (Nat × Value)} {st : List Value} {idx : Nat} {c : CS} {j i : Nat} {u : SV} {n am he sa ro fa : Int} {kd sp hu be ea : Int → Int} (O : zO K X cc own ret nL f) (hN : kN K = 85) (hj : j < 12) (hi : i < 12) (hne : i ≠ j) (hcu : c.1 i = u) (hw : zCopy own idx) (hf : 1 ≤ f) (hs : (st.map fun v => v.category).sum ≤ 5) (hd : decode cc pc = .ok (.invokestatic idx, 3)) (k : G K X nL (pc + 3) lo st (layC K (wS c j (n, am, he, sa, ro, fa, kd, sp, hu, cpI (qbe u) be 7, ea)))) : G K X nL pc lo (.int (iI 7) :: .int (iI 0) :: .ref (kad K (6 * j + 17)) :: .int (iI 0) :: .ref (kad K (6 * i + 17)) :: st) (layC K (wS c j (n, am, he, sa, ro, fa, kd, sp, hu, be, ea))) := by
  refine r_copy O hw hf hs (by rw [hN]; omega) (by rw [hN]; omega) (lay_qj K _ i 4 (by omega) (by decide) (by rw [wS_n c _ hne, hcu]; rfl) : layC K (wS c j (n, am, he, sa, ro, fa, kd, sp, hu, be, ea)) (6 * i + 17) = .inl (kI K, 7, .inl (aI (qbe u)))) (lay_q K c j (n, am, he, sa, ro, fa, kd, sp, hu, be, ea) 4 (by omega) (by decide) rfl : layC K (wS c j (n, am, he, sa, ro, fa, kd, sp, hu, be, ea)) (6 * j + 17) = .inl (kI K, 7, .inl (aI be))) (by decide) (by decide) (by decide) (by decide) hd ?_
  exact G_ct (lay_up K c j (n, am, he, sa, ro, fa, kd, sp, hu, be, ea) (n, am, he, sa, ro, fa, kd, sp, hu, cpI (qbe u) be 7, ea) 4 (by omega) (by decide) _ rfl (six (fun _ => by simp only [sitE, qn, qam, qhe, qsa, qro, qfa, qkd, qsp, qhu, qbe, qea]) (fun _ => by simp only [sitE, qn, qam, qhe, qsa, qro, qfa, qkd, qsp, qhu, qbe, qea]) (fun _ => by simp only [sitE, qn, qam, qhe, qsa, qro, qfa, qkd, qsp, qhu, qbe, qea]) (fun _ => by simp only [sitE, qn, qam, qhe, qsa, qro, qfa, qkd, qsp, qhu, qbe, qea]) (fun h => absurd rfl h) (fun _ => by simp only [sitE, qn, qam, qhe, qsa, qro, qfa, qkd, qsp, qhu, qbe, qea]))) k
theorem t_arr_ea {K : zK} {X : zX} {cc : ByteArray} {own : String} {ret : Option FieldType} {nL f pc : Nat} {lo : List (Nat × Value)} {st : List Value} {idx : Nat} {c : CS} {j : Nat} (O : zO K X cc own ret nL f) (hN : kN K = 85) (hj : j < 12) (hw : Cond.fieldLink own idx RX3 (TX3 4).2.1 (TX3 4).2.2.1 ∈ zTB) (hd : decode cc pc = .ok (.getfield idx, 3)) (k : G K X nL (pc + 3) lo (.ref (kad K (6 * j + 18)) :: st) (layC K c)) : G K X nL pc lo (.ref (kad K (6 * j + 13)) :: st) (layC K c) :=
  r_get O (by rw [hN]; omega) (lay_j0 K c j) zCl3 hw (by decide) rfl hd k
theorem t_ld_ea {K : zK} {X : zX} {cc : ByteArray} {own : String} {ret : Option FieldType} {nL f pc : Nat} {lo : List (Nat × Value)} {st : List Value} {z : Int} {c : CS} {j : Nat} (O : zO K X cc own ret nL f) (hN : kN K = 85) (hj : j < 12) (h0 : 0 ≤ z) (h1 : z < 7) (hd : decode cc pc = .ok (.iaload, 1)) (k : G K X nL (pc + 1) lo (.int (iI (qea (c.1 j) z)) :: st) (layC K c)) : G K X nL pc lo (.int (iI z) :: .ref (kad K (6 * j + 18)) :: st) (layC K c) :=
  r_iald O (by rw [hN]; omega) (lay_qj K c j 5 (by omega) (by decide) rfl : layC K c (6 * j + 18) = .inl (kI K, 7, .inl (aI (qea (c.1 j))))) h0 h1 (by decide) hd k
theorem o_copy_ea {K : zK} {X : zX} {cc : ByteArray} {own : String} {ret : Option FieldType} {nL f pc : Nat} {lo : List (Nat × Value)} {st : List Value} {idx : Nat} {c : CS} {j i : Nat} {u : SV} {n am he sa ro fa : Int} {kd sp hu be ea : Int → Int} (O : zO K X cc own ret nL f) (hN : kN K = 85) (hj : j < 12) (hi : i < 12) (hne : i ≠ j) (hcu : c.1 i = u) (hw : zCopy own idx) (hf : 1 ≤ f) (hs : (st.map fun v => v.category).sum ≤ 5) (hd : decode cc pc = .ok (.invokestatic idx, 3)) (k : G K X nL (pc + 3) lo st (layC K (wS c j (n, am, he, sa, ro, fa, kd, sp, hu, be, cpI (qea u) ea 7)))) : G K X nL pc lo (.int (iI 7) :: .int (iI 0) :: .ref (kad K (6 * j + 18)) :: .int (iI 0) :: .ref (kad K (6 * i + 18)) :: st) (layC K (wS c j (n, am, he, sa, ro, fa, kd, sp, hu, be, ea))) := by
  refine r_copy O hw hf hs (by rw [hN]; omega) (by rw [hN]; omega) (lay_qj K _ i 5 (by omega) (by decide) (by rw [wS_n c _ hne, hcu]; rfl) : layC K (wS c j (n, am, he, sa, ro, fa, kd, sp, hu, be, ea)) (6 * i + 18) = .inl (kI K, 7, .inl (aI (qea u)))) (lay_q K c j (n, am, he, sa, ro, fa, kd, sp, hu, be, ea) 5 (by omega) (by decide) rfl : layC K (wS c j (n, am, he, sa, ro, fa, kd, sp, hu, be, ea)) (6 * j + 18) = .inl (kI K, 7, .inl (aI ea))) (by decide) (by decide) (by decide) (by decide) hd ?_
  exact G_ct (lay_up K c j (n, am, he, sa, ro, fa, kd, sp, hu, be, ea) (n, am, he, sa, ro, fa, kd, sp, hu, be, cpI (qea u) ea 7) 5 (by omega) (by decide) _ rfl (six (fun _ => by simp only [sitE, qn, qam, qhe, qsa, qro, qfa, qkd, qsp, qhu, qbe, qea]) (fun _ => by simp only [sitE, qn, qam, qhe, qsa, qro, qfa, qkd, qsp, qhu, qbe, qea]) (fun _ => by simp only [sitE, qn, qam, qhe, qsa, qro, qfa, qkd, qsp, qhu, qbe, qea]) (fun _ => by simp only [sitE, qn, qam, qhe, qsa, qro, qfa, qkd, qsp, qhu, qbe, qea]) (fun _ => by simp only [sitE, qn, qam, qhe, qsa, qro, qfa, qkd, qsp, qhu, qbe, qea]) (fun h => absurd rfl h))) k
def zget : List (Nat × Value) → Nat → Option Value
  | [], _ => none
  | (j, v) :: l, i => match Nat.beq j i with
    | true => some v
    | false => zget l i
def zput (i : Nat) (v : Value) : List (Nat × Value) → List (Nat × Value)
  | [] => [(i, v)]
  | (j, u) :: l => match Nat.beq j i with
    | true => (i, v) :: l.filter (fun q => !(q.1 == i) && !(q.1 + 1 == i && q.2.category == 2))
    | false => (j, u) :: zput i v l
def zoneb : List (Nat × Value) → Bool
  | [] => true
  | (_, v) :: l => Nat.beq v.category 1 && zoneb l
def zone (l : List (Nat × Value)) : Prop := zoneb l = true
theorem zone_c {j : Nat} {u : Value} {l : List (Nat × Value)} (h : zone ((j, u) :: l)) : u.category = 1 ∧ zone l := by
  unfold zone zoneb at h
  rw [Bool.and_eq_true] at h
  exact ⟨Nat.eq_of_beq_eq_true h.1, h.2⟩
theorem zget_lo {lo : List (Nat × Value)} {i : Nat} {v : Value} (h : zget lo i = some v) : zLo lo i v := by
  induction lo with
  | nil => cases h
  | cons a l ih =>
    obtain ⟨j, u⟩ := a
    unfold zget at h
    split at h
    · rename_i hb
      have e := Nat.eq_of_beq_eq_true hb
      cases h
      subst e
      exact zLo_0
    · exact zLo_s (ih h)
theorem zput_sub {lo : List (Nat × Value)} (h1 : zone lo) (i : Nat) (v : Value) : ∀ q ∈ zput i v lo, q ∈ zst i v lo := by
  induction lo with
  | nil => intro q hq; exact hq
  | cons a l ih =>
    obtain ⟨j, u⟩ := a
    intro q hq
    unfold zput at hq
    unfold zst at ih ⊢
    split at hq
    · rcases List.mem_cons.mp hq with h | h
      · rw [h]; exact List.mem_cons_self
      · refine List.mem_cons_of_mem _ ?_
        have h2 := List.mem_filter.mp h
        exact List.mem_filter.mpr ⟨List.mem_cons_of_mem _ h2.1, h2.2⟩
    · rename_i hb
      rcases List.mem_cons.mp hq with h | h
      · rw [h]
        refine List.mem_cons_of_mem _ (List.mem_filter.mpr ⟨List.mem_cons_self, ?_⟩)
        have e : (j == i) = false := by
          simpa using Nat.ne_of_beq_eq_false hb
        simp [e, (zone_c h1).1]
      · rcases List.mem_cons.mp (ih (zone_c h1).2 q h) with h2 | h2
        · rw [h2]; exact List.mem_cons_self
        · have h3 := List.mem_filter.mp h2
          exact List.mem_cons_of_mem _ (List.mem_filter.mpr ⟨List.mem_cons_of_mem _ h3.1, h3.2⟩)
def zsub : List (Nat × Value) → List (Nat × Value) → Prop
  | [], _ => True
  | (i, v) :: l, lo => zget lo i = some v ∧ zsub l lo
theorem zsub_in {lo' lo : List (Nat × Value)} (h : zsub lo' lo) : ∀ q ∈ lo', q ∈ lo := by
  induction lo' with
  | nil => intro q hq; cases hq
  | cons a l ih =>
    obtain ⟨i, v⟩ := a
    intro q hq
    rcases List.mem_cons.mp hq with h2 | h2
    · rw [h2]; exact zget_lo h.1
    · exact ih h.2 q h2
theorem zsn {lo : List (Nat × Value)} : zsub [] lo := trivial
theorem zsc {lo l : List (Nat × Value)} {i : Nat} {v : Value} (h : zget lo i = some v) (h2 : zsub l lo) : zsub ((i, v) :: l) lo := ⟨h, h2⟩
theorem G_chk {K : zK} {X : zX} {nL pc : Nat} {lo lo' : List (Nat × Value)} {st : List Value} {ct : zE} (k : G K X nL pc lo' st ct) (h : zsub lo' lo) : G K X nL pc lo st ct := G_sub (zsub_in h) k
theorem iI_e {a b : Int} (h : a = b) : (.int (iI a) : Value) = .int (iI b) := by rw [h]
theorem n_iload_n {K : zK} {X : zX} {cc : ByteArray} {own : String} {ret : Option FieldType} {nL f pc : Nat} {lo : List (Nat × Value)} {st : List Value} {ct : zE} {q : Fin 4} {x : Int32} (O : zO K X cc own ret nL f) (hd : decode cc pc = .ok (.iload_n q, 1)) (hg : zget lo (q : Nat) = some (.int x)) (k : G K X nL (pc + 1) lo (.int x :: st) ct) : G K X nL pc lo st ct := r_iload_n O hd rfl (zget_lo hg) k
theorem n_iload {K : zK} {X : zX} {cc : ByteArray} {own : String} {ret : Option FieldType} {nL f pc : Nat} {lo : List (Nat × Value)} {st : List Value} {ct : zE} {i : Nat} {x : Int32} (O : zO K X cc own ret nL f) (hd : decode cc pc = .ok (.iload i, 2)) (hg : zget lo i = some (.int x)) (k : G K X nL (pc + 2) lo (.int x :: st) ct) : G K X nL pc lo st ct := r_iload O hd (zget_lo hg) k
theorem n_istore_n {K : zK} {X : zX} {cc : ByteArray} {own : String} {ret : Option FieldType} {nL f pc : Nat} {lo : List (Nat × Value)} {st : List Value} {ct : zE} {q : Fin 4} {x : Int32} (O : zO K X cc own ret nL f) (hd : decode cc pc = .ok (.istore_n q, 1)) (hn : (q : Nat) < nL) (h1 : zone lo) (k : G K X nL (pc + 1) (zput (q : Nat) (.int x) lo) st ct) : G K X nL pc lo (.int x :: st) ct := r_istore_n O hd rfl hn rfl (G_sub (zput_sub h1 _ _) k)
theorem n_istore {K : zK} {X : zX} {cc : ByteArray} {own : String} {ret : Option FieldType} {nL f pc : Nat} {lo : List (Nat × Value)} {st : List Value} {ct : zE} {i : Nat} {x : Int32} (O : zO K X cc own ret nL f) (hd : decode cc pc = .ok (.istore i, 2)) (hn : i < nL) (h1 : zone lo) (k : G K X nL (pc + 2) (zput i (.int x) lo) st ct) : G K X nL pc lo (.int x :: st) ct := r_istore O hd hn rfl (G_sub (zput_sub h1 _ _) k)
theorem n_aload_n {K : zK} {X : zX} {cc : ByteArray} {own : String} {ret : Option FieldType} {nL f pc : Nat} {lo : List (Nat × Value)} {st : List Value} {ct : zE} {q : Fin 4} {x : Nat} (O : zO K X cc own ret nL f) (hd : decode cc pc = .ok (.aload_n q, 1)) (hg : zget lo (q : Nat) = some (.ref x)) (k : G K X nL (pc + 1) lo (.ref x :: st) ct) : G K X nL pc lo st ct := r_aload_n O hd rfl (zget_lo hg) k
theorem n_aload {K : zK} {X : zX} {cc : ByteArray} {own : String} {ret : Option FieldType} {nL f pc : Nat} {lo : List (Nat × Value)} {st : List Value} {ct : zE} {i : Nat} {x : Nat} (O : zO K X cc own ret nL f) (hd : decode cc pc = .ok (.aload i, 2)) (hg : zget lo i = some (.ref x)) (k : G K X nL (pc + 2) lo (.ref x :: st) ct) : G K X nL pc lo st ct := r_aload O hd (zget_lo hg) k
theorem n_astore_n {K : zK} {X : zX} {cc : ByteArray} {own : String} {ret : Option FieldType} {nL f pc : Nat} {lo : List (Nat × Value)} {st : List Value} {ct : zE} {q : Fin 4} {x : Nat} (O : zO K X cc own ret nL f) (hd : decode cc pc = .ok (.astore_n q, 1)) (hn : (q : Nat) < nL) (h1 : zone lo) (k : G K X nL (pc + 1) (zput (q : Nat) (.ref x) lo) st ct) : G K X nL pc lo (.ref x :: st) ct := r_astore_n O hd rfl hn rfl (G_sub (zput_sub h1 _ _) k)
theorem n_astore {K : zK} {X : zX} {cc : ByteArray} {own : String} {ret : Option FieldType} {nL f pc : Nat} {lo : List (Nat × Value)} {st : List Value} {ct : zE} {i : Nat} {x : Nat} (O : zO K X cc own ret nL f) (hd : decode cc pc = .ok (.astore i, 2)) (hn : i < nL) (h1 : zone lo) (k : G K X nL (pc + 2) (zput i (.ref x) lo) st ct) : G K X nL pc lo (.ref x :: st) ct := r_astore O hd hn rfl (G_sub (zput_sub h1 _ _) k)
theorem n_iinc {K : zK} {X : zX} {cc : ByteArray} {own : String} {ret : Option FieldType} {nL f pc : Nat} {lo : List (Nat × Value)} {st : List Value} {ct : zE} {i : Nat} {n x : Int} (O : zO K X cc own ret nL f) (hd : decode cc pc = .ok (.iinc i n, 3)) (hn : i < nL) (hg : zget lo i = some (.int (iI x))) (h1 : zone lo) (k : G K X nL (pc + 3) (zput i (.int (iI (x + n))) lo) st ct) : G K X nL pc lo st ct := r_iinc O hd hn (zget_lo hg) rfl (G_sub (zput_sub h1 _ _) k)
