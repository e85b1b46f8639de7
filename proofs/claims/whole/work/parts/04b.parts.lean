def wT (c : CS) (x : (Int → Int) × (Int → Int) × Int) : CS := (c.1, x, c.2.2)
def wE (c : CS) (x : (Int → Int) × Int × Int) : CS := (c.1, c.2.1, x, c.2.2.2)
def wV (c : CS) (x : (Int → Int) × (Int → Int) × Int) : CS := (c.1, c.2.1, c.2.2.1, x, c.2.2.2.2)
def wU (c : CS) (x : (Int → Nat) × Int) : CS := (c.1, c.2.1, c.2.2.1, c.2.2.2.1, x, c.2.2.2.2.2)
def wP (c : CS) (x : (Int → Nat) × Int) : CS := (c.1, c.2.1, c.2.2.1, c.2.2.2.1, c.2.2.2.2.1, x)
theorem zup_lay {K : zK} {c c' : CS} {q : Nat} {e : va_E} (h1 : layC K c' q = e) (h2 : ∀ k, k ≠ q → layC K c' k = layC K c k) : zup (layC K c) q e = layC K c' := by
  funext k
  unfold zup
  by_cases h : k = q
  · rw [if_pos h, h, h1]
  · rw [if_neg h, h2 k h]
theorem pileC_up (g : Int → Nat) (z : Int) (j : Nat) : uN' (pileC g) z (6 * j + 13) = pileC (uN' g z j) := by
  funext q
  unfold uN' pileC
  by_cases h : q = z
  · rw [if_pos h]; show _ = 6 * (if q = z then j else g q) + 13; rw [if_pos h]
  · rw [if_neg h]; show _ = 6 * (if q = z then j else g q) + 13; rw [if_neg h]
theorem r_cast {K : zK} {X : zX} {cc : ByteArray} {own : String} {ret : Option FieldType} {nL f pc : Nat} {lo : List (Nat × Value)} {st : List Value} {ct : zE} {a n : Nat} {g : Int → Int} {z v : Int} (O : zO K X cc own ret nL f) (ha : a < kN K) (he : ct a = .inl (kC K, n, .inl (aI g))) (h0 : 0 ≤ z) (h1 : z < n) (hn : n < 2147483648) (hv : vp_nar .char (iI v) = iI v) (hd : decode cc pc = .ok (.castore, 1)) (k : G K X nL (pc + 1) lo st (zup ct a (.inl (kC K, n, .inl (aI (uI g z v)))))) : G K X nL pc lo (.int (iI v) :: .int (iI z) :: .ref (kad K a) :: st) ct := by
  obtain ⟨l, D, A, ad, N, cI, cC, cS⟩ := K
  obtain ⟨p, e, R, s, m, args, below, meth, c, Q, cells, slots⟩ := X
  obtain ⟨hx, hb, hr, hml, hown, hts, hlk, hK, hZ, hI, hf1, hf2, hc1, hc2⟩ := O
  intro H locs ls hP hS hl
  refine va_cast (tys := _) hx hb hK hP (zwl_D hI ct) hS a 1 ((zwl_at ha).trans (by rw [he])) rfl (iI_in h0 h1 hn) hd (fun H1 locs1 hP1 _ hS1 => ?_)
  refine k H1 locs1 ls ?_ hS1 hl
  rw [hv, aI_up g v h0 (by omega)] at hP1
  have e9 := zwl_set (K := (l, D, A, ad, N, cI, cC, cS)) (ct := ct) (k := a) (.inl (cC, n, .inl (aI (uI g z v))))
  exact e9 ▸ hP1
theorem T_get_lt {K : zK} {X : zX} {cc : ByteArray} {own : String} {ret : Option FieldType} {nL f pc : Nat} {lo : List (Nat × Value)} {st : List Value} {idx : Nat} {c : CS} {lt : Int → Int} {nu : Int → Int} {le : Int} (O : zO K X cc own ret nL f) (hN : kN K = 85) (hw : Cond.fieldLink own idx RX4 (TX4 0).2.1 (TX4 0).2.2.1 ∈ zTB) (hd : decode cc pc = .ok (.getfield idx, 3)) (k : G K X nL (pc + 3) lo (.ref (kad K 2) :: st) (layC K (wT c (lt, nu, le)))) : G K X nL pc lo (.ref (kad K 1) :: st) (layC K (wT c (lt, nu, le))) :=
  r_get O (by rw [hN]; decide) (show layC K (wT c (lt, nu, le)) 1 = .inr (4, [.ref (kad K 2), .ref (kad K 3), .int (iI le)]) from rfl) zCl4 hw (by decide) rfl hd k
theorem T_ld_lt {K : zK} {X : zX} {cc : ByteArray} {own : String} {ret : Option FieldType} {nL f pc : Nat} {lo : List (Nat × Value)} {st : List Value} {z : Int} {c : CS} {lt : Int → Int} {nu : Int → Int} {le : Int} (O : zO K X cc own ret nL f) (hN : kN K = 85) (h0 : 0 ≤ z) (h1 : z < 200) (hd : decode cc pc = .ok (.caload, 1)) (k : G K X nL (pc + 1) lo (.int (iI (lt z)) :: st) (layC K (wT c (lt, nu, le)))) : G K X nL pc lo (.int (iI z) :: .ref (kad K 2) :: st) (layC K (wT c (lt, nu, le))) :=
  r_cald O (by rw [hN]; decide) (show layC K (wT c (lt, nu, le)) 2 = .inl (kC K, 200, .inl (aI lt)) from rfl) h0 h1 (by decide) hd k
theorem T_st_lt {K : zK} {X : zX} {cc : ByteArray} {own : String} {ret : Option FieldType} {nL f pc : Nat} {lo : List (Nat × Value)} {st : List Value} {z x : Int} {c : CS} {lt : Int → Int} {nu : Int → Int} {le : Int} (O : zO K X cc own ret nL f) (hN : kN K = 85) (h0 : 0 ≤ z) (h1 : z < 200) (hv : vp_nar .char (iI x) = iI x) (hd : decode cc pc = .ok (.castore, 1)) (k : G K X nL (pc + 1) lo st (layC K (wT c (uI lt z x, nu, le)))) : G K X nL pc lo (.int (iI x) :: .int (iI z) :: .ref (kad K 2) :: st) (layC K (wT c (lt, nu, le))) := by
  refine r_cast O (by rw [hN]; decide) (show layC K (wT c (lt, nu, le)) 2 = .inl (kC K, 200, .inl (aI lt)) from rfl) h0 h1 (by decide) hv hd ?_
  exact G_ct (zup_lay (c' := wT c (uI lt z x, nu, le)) rfl (fun k hk => match k, hk with
    | 0, _ => rfl
    | 1, _ => rfl
    | 2, h => absurd rfl h
    | 3, _ => rfl
    | 4, _ => rfl
    | 5, _ => rfl
    | 6, _ => rfl
    | 7, _ => rfl
    | 8, _ => rfl
    | 9, _ => rfl
    | 10, _ => rfl
    | 11, _ => rfl
    | 12, _ => rfl
    | _ + 13, _ => rfl)) k
theorem T_len_lt {K : zK} {X : zX} {cc : ByteArray} {own : String} {ret : Option FieldType} {nL f pc : Nat} {lo : List (Nat × Value)} {st : List Value} {c : CS} {lt : Int → Int} {nu : Int → Int} {le : Int} (O : zO K X cc own ret nL f) (hN : kN K = 85) (hd : decode cc pc = .ok (.arraylength, 1)) (k : G K X nL (pc + 1) lo (.int (iI 200) :: st) (layC K (wT c (lt, nu, le)))) : G K X nL pc lo (.ref (kad K 2) :: st) (layC K (wT c (lt, nu, le))) :=
  r_alen (n := 200) O (by rw [hN]; decide) (show layC K (wT c (lt, nu, le)) 2 = .inl (kC K, 200, .inl (aI lt)) from rfl) (Or.inr (Or.inl rfl)) rfl hd k
theorem T_get_nu {K : zK} {X : zX} {cc : ByteArray} {own : String} {ret : Option FieldType} {nL f pc : Nat} {lo : List (Nat × Value)} {st : List Value} {idx : Nat} {c : CS} {lt : Int → Int} {nu : Int → Int} {le : Int} (O : zO K X cc own ret nL f) (hN : kN K = 85) (hw : Cond.fieldLink own idx RX4 (TX4 1).2.1 (TX4 1).2.2.1 ∈ zTB) (hd : decode cc pc = .ok (.getfield idx, 3)) (k : G K X nL (pc + 3) lo (.ref (kad K 3) :: st) (layC K (wT c (lt, nu, le)))) : G K X nL pc lo (.ref (kad K 1) :: st) (layC K (wT c (lt, nu, le))) :=
  r_get O (by rw [hN]; decide) (show layC K (wT c (lt, nu, le)) 1 = .inr (4, [.ref (kad K 2), .ref (kad K 3), .int (iI le)]) from rfl) zCl4 hw (by decide) rfl hd k
theorem T_ld_nu {K : zK} {X : zX} {cc : ByteArray} {own : String} {ret : Option FieldType} {nL f pc : Nat} {lo : List (Nat × Value)} {st : List Value} {z : Int} {c : CS} {lt : Int → Int} {nu : Int → Int} {le : Int} (O : zO K X cc own ret nL f) (hN : kN K = 85) (h0 : 0 ≤ z) (h1 : z < 4) (hd : decode cc pc = .ok (.iaload, 1)) (k : G K X nL (pc + 1) lo (.int (iI (nu z)) :: st) (layC K (wT c (lt, nu, le)))) : G K X nL pc lo (.int (iI z) :: .ref (kad K 3) :: st) (layC K (wT c (lt, nu, le))) :=
  r_iald O (by rw [hN]; decide) (show layC K (wT c (lt, nu, le)) 3 = .inl (kI K, 4, .inl (aI nu)) from rfl) h0 h1 (by decide) hd k
theorem T_st_nu {K : zK} {X : zX} {cc : ByteArray} {own : String} {ret : Option FieldType} {nL f pc : Nat} {lo : List (Nat × Value)} {st : List Value} {z x : Int} {c : CS} {lt : Int → Int} {nu : Int → Int} {le : Int} (O : zO K X cc own ret nL f) (hN : kN K = 85) (h0 : 0 ≤ z) (h1 : z < 4) (hd : decode cc pc = .ok (.iastore, 1)) (k : G K X nL (pc + 1) lo st (layC K (wT c (lt, uI nu z x, le)))) : G K X nL pc lo (.int (iI x) :: .int (iI z) :: .ref (kad K 3) :: st) (layC K (wT c (lt, nu, le))) := by
  refine r_iast O (by rw [hN]; decide) (show layC K (wT c (lt, nu, le)) 3 = .inl (kI K, 4, .inl (aI nu)) from rfl) h0 h1 (by decide) hd ?_
  exact G_ct (zup_lay (c' := wT c (lt, uI nu z x, le)) rfl (fun k hk => match k, hk with
    | 0, _ => rfl
    | 1, _ => rfl
    | 2, _ => rfl
    | 3, h => absurd rfl h
    | 4, _ => rfl
    | 5, _ => rfl
    | 6, _ => rfl
    | 7, _ => rfl
    | 8, _ => rfl
    | 9, _ => rfl
    | 10, _ => rfl
    | 11, _ => rfl
    | 12, _ => rfl
    | _ + 13, _ => rfl)) k
theorem T_len_nu {K : zK} {X : zX} {cc : ByteArray} {own : String} {ret : Option FieldType} {nL f pc : Nat} {lo : List (Nat × Value)} {st : List Value} {c : CS} {lt : Int → Int} {nu : Int → Int} {le : Int} (O : zO K X cc own ret nL f) (hN : kN K = 85) (hd : decode cc pc = .ok (.arraylength, 1)) (k : G K X nL (pc + 1) lo (.int (iI 4) :: st) (layC K (wT c (lt, nu, le)))) : G K X nL pc lo (.ref (kad K 3) :: st) (layC K (wT c (lt, nu, le))) :=
  r_alen (n := 4) O (by rw [hN]; decide) (show layC K (wT c (lt, nu, le)) 3 = .inl (kI K, 4, .inl (aI nu)) from rfl) (Or.inl rfl) rfl hd k
theorem T_get_le {K : zK} {X : zX} {cc : ByteArray} {own : String} {ret : Option FieldType} {nL f pc : Nat} {lo : List (Nat × Value)} {st : List Value} {idx : Nat} {c : CS} {lt : Int → Int} {nu : Int → Int} {le : Int} (O : zO K X cc own ret nL f) (hN : kN K = 85) (hw : Cond.fieldLink own idx RX4 (TX4 2).2.1 (TX4 2).2.2.1 ∈ zTB) (hd : decode cc pc = .ok (.getfield idx, 3)) (k : G K X nL (pc + 3) lo (.int (iI le) :: st) (layC K (wT c (lt, nu, le)))) : G K X nL pc lo (.ref (kad K 1) :: st) (layC K (wT c (lt, nu, le))) :=
  r_get O (by rw [hN]; decide) (show layC K (wT c (lt, nu, le)) 1 = .inr (4, [.ref (kad K 2), .ref (kad K 3), .int (iI le)]) from rfl) zCl4 hw (by decide) rfl hd k
theorem T_put_le {K : zK} {X : zX} {cc : ByteArray} {own : String} {ret : Option FieldType} {nL f pc : Nat} {lo : List (Nat × Value)} {st : List Value} {idx : Nat} {x : Int} {c : CS} {lt : Int → Int} {nu : Int → Int} {le : Int} (O : zO K X cc own ret nL f) (hN : kN K = 85) (hw : Cond.fieldLink own idx RX4 (TX4 2).2.1 (TX4 2).2.2.1 ∈ zTB) (hd : decode cc pc = .ok (.putfield idx, 3)) (k : G K X nL (pc + 3) lo st (layC K (wT c (lt, nu, x)))) : G K X nL pc lo (.int (iI x) :: .ref (kad K 1) :: st) (layC K (wT c (lt, nu, le))) := by
  refine r_put (ty := .int) O (by rw [hN]; decide) (show layC K (wT c (lt, nu, le)) 1 = .inr (4, [.ref (kad K 2), .ref (kad K 3), .int (iI le)]) from rfl) zCl4 hw (by decide) rfl (by decide +kernel) rfl rfl (Nat.le_of_ble_eq_true rfl) hd ?_
  exact G_ct (zup_lay (c' := wT c (lt, nu, x)) rfl (fun k hk => match k, hk with
    | 0, _ => rfl
    | 1, h => absurd rfl h
    | 2, _ => rfl
    | 3, _ => rfl
    | 4, _ => rfl
    | 5, _ => rfl
    | 6, _ => rfl
    | 7, _ => rfl
    | 8, _ => rfl
    | 9, _ => rfl
    | 10, _ => rfl
    | 11, _ => rfl
    | 12, _ => rfl
    | _ + 13, _ => rfl)) k
theorem E_get_rc {K : zK} {X : zX} {cc : ByteArray} {own : String} {ret : Option FieldType} {nL f pc : Nat} {lo : List (Nat × Value)} {st : List Value} {idx : Nat} {c : CS} {rc : Int → Int} {mm : Int} {aa : Int} (O : zO K X cc own ret nL f) (hN : kN K = 85) (hw : Cond.fieldLink own idx RX1 (TX1 0).2.1 (TX1 0).2.2.1 ∈ zTB) (hd : decode cc pc = .ok (.getfield idx, 3)) (k : G K X nL (pc + 3) lo (.ref (kad K 5) :: st) (layC K (wE c (rc, mm, aa)))) : G K X nL pc lo (.ref (kad K 4) :: st) (layC K (wE c (rc, mm, aa))) :=
  r_get O (by rw [hN]; decide) (show layC K (wE c (rc, mm, aa)) 4 = .inr (1, [.ref (kad K 5), .int (iI mm), .int (iI aa)]) from rfl) zCl1 hw (by decide) rfl hd k
theorem E_ld_rc {K : zK} {X : zX} {cc : ByteArray} {own : String} {ret : Option FieldType} {nL f pc : Nat} {lo : List (Nat × Value)} {st : List Value} {z : Int} {c : CS} {rc : Int → Int} {mm : Int} {aa : Int} (O : zO K X cc own ret nL f) (hN : kN K = 85) (h0 : 0 ≤ z) (h1 : z < 7) (hd : decode cc pc = .ok (.iaload, 1)) (k : G K X nL (pc + 1) lo (.int (iI (rc z)) :: st) (layC K (wE c (rc, mm, aa)))) : G K X nL pc lo (.int (iI z) :: .ref (kad K 5) :: st) (layC K (wE c (rc, mm, aa))) :=
  r_iald O (by rw [hN]; decide) (show layC K (wE c (rc, mm, aa)) 5 = .inl (kI K, 7, .inl (aI rc)) from rfl) h0 h1 (by decide) hd k
theorem E_st_rc {K : zK} {X : zX} {cc : ByteArray} {own : String} {ret : Option FieldType} {nL f pc : Nat} {lo : List (Nat × Value)} {st : List Value} {z x : Int} {c : CS} {rc : Int → Int} {mm : Int} {aa : Int} (O : zO K X cc own ret nL f) (hN : kN K = 85) (h0 : 0 ≤ z) (h1 : z < 7) (hd : decode cc pc = .ok (.iastore, 1)) (k : G K X nL (pc + 1) lo st (layC K (wE c (uI rc z x, mm, aa)))) : G K X nL pc lo (.int (iI x) :: .int (iI z) :: .ref (kad K 5) :: st) (layC K (wE c (rc, mm, aa))) := by
  refine r_iast O (by rw [hN]; decide) (show layC K (wE c (rc, mm, aa)) 5 = .inl (kI K, 7, .inl (aI rc)) from rfl) h0 h1 (by decide) hd ?_
  exact G_ct (zup_lay (c' := wE c (uI rc z x, mm, aa)) rfl (fun k hk => match k, hk with
    | 0, _ => rfl
    | 1, _ => rfl
    | 2, _ => rfl
    | 3, _ => rfl
    | 4, _ => rfl
    | 5, h => absurd rfl h
    | 6, _ => rfl
    | 7, _ => rfl
    | 8, _ => rfl
    | 9, _ => rfl
    | 10, _ => rfl
    | 11, _ => rfl
    | 12, _ => rfl
    | _ + 13, _ => rfl)) k
theorem E_len_rc {K : zK} {X : zX} {cc : ByteArray} {own : String} {ret : Option FieldType} {nL f pc : Nat} {lo : List (Nat × Value)} {st : List Value} {c : CS} {rc : Int → Int} {mm : Int} {aa : Int} (O : zO K X cc own ret nL f) (hN : kN K = 85) (hd : decode cc pc = .ok (.arraylength, 1)) (k : G K X nL (pc + 1) lo (.int (iI 7) :: st) (layC K (wE c (rc, mm, aa)))) : G K X nL pc lo (.ref (kad K 5) :: st) (layC K (wE c (rc, mm, aa))) :=
  r_alen (n := 7) O (by rw [hN]; decide) (show layC K (wE c (rc, mm, aa)) 5 = .inl (kI K, 7, .inl (aI rc)) from rfl) (Or.inl rfl) rfl hd k
theorem E_get_mm {K : zK} {X : zX} {cc : ByteArray} {own : String} {ret : Option FieldType} {nL f pc : Nat} {lo : List (Nat × Value)} {st : List Value} {idx : Nat} {c : CS} {rc : Int → Int} {mm : Int} {aa : Int} (O : zO K X cc own ret nL f) (hN : kN K = 85) (hw : Cond.fieldLink own idx RX1 (TX1 1).2.1 (TX1 1).2.2.1 ∈ zTB) (hd : decode cc pc = .ok (.getfield idx, 3)) (k : G K X nL (pc + 3) lo (.int (iI mm) :: st) (layC K (wE c (rc, mm, aa)))) : G K X nL pc lo (.ref (kad K 4) :: st) (layC K (wE c (rc, mm, aa))) :=
  r_get O (by rw [hN]; decide) (show layC K (wE c (rc, mm, aa)) 4 = .inr (1, [.ref (kad K 5), .int (iI mm), .int (iI aa)]) from rfl) zCl1 hw (by decide) rfl hd k
theorem E_put_mm {K : zK} {X : zX} {cc : ByteArray} {own : String} {ret : Option FieldType} {nL f pc : Nat} {lo : List (Nat × Value)} {st : List Value} {idx : Nat} {x : Int} {c : CS} {rc : Int → Int} {mm : Int} {aa : Int} (O : zO K X cc own ret nL f) (hN : kN K = 85) (hw : Cond.fieldLink own idx RX1 (TX1 1).2.1 (TX1 1).2.2.1 ∈ zTB) (hd : decode cc pc = .ok (.putfield idx, 3)) (k : G K X nL (pc + 3) lo st (layC K (wE c (rc, x, aa)))) : G K X nL pc lo (.int (iI x) :: .ref (kad K 4) :: st) (layC K (wE c (rc, mm, aa))) := by
  refine r_put (ty := .int) O (by rw [hN]; decide) (show layC K (wE c (rc, mm, aa)) 4 = .inr (1, [.ref (kad K 5), .int (iI mm), .int (iI aa)]) from rfl) zCl1 hw (by decide) rfl (by decide +kernel) rfl rfl (Nat.le_of_ble_eq_true rfl) hd ?_
  exact G_ct (zup_lay (c' := wE c (rc, x, aa)) rfl (fun k hk => match k, hk with
    | 0, _ => rfl
    | 1, _ => rfl
    | 2, _ => rfl
    | 3, _ => rfl
    | 4, h => absurd rfl h
    | 5, _ => rfl
    | 6, _ => rfl
    | 7, _ => rfl
    | 8, _ => rfl
    | 9, _ => rfl
    | 10, _ => rfl
    | 11, _ => rfl
    | 12, _ => rfl
    | _ + 13, _ => rfl)) k
theorem E_get_aa {K : zK} {X : zX} {cc : ByteArray} {own : String} {ret : Option FieldType} {nL f pc : Nat} {lo : List (Nat × Value)} {st : List Value} {idx : Nat} {c : CS} {rc : Int → Int} {mm : Int} {aa : Int} (O : zO K X cc own ret nL f) (hN : kN K = 85) (hw : Cond.fieldLink own idx RX1 (TX1 2).2.1 (TX1 2).2.2.1 ∈ zTB) (hd : decode cc pc = .ok (.getfield idx, 3)) (k : G K X nL (pc + 3) lo (.int (iI aa) :: st) (layC K (wE c (rc, mm, aa)))) : G K X nL pc lo (.ref (kad K 4) :: st) (layC K (wE c (rc, mm, aa))) :=
  r_get O (by rw [hN]; decide) (show layC K (wE c (rc, mm, aa)) 4 = .inr (1, [.ref (kad K 5), .int (iI mm), .int (iI aa)]) from rfl) zCl1 hw (by decide) rfl hd k
theorem E_put_aa {K : zK} {X : zX} {cc : ByteArray} {own : String} {ret : Option FieldType} {nL f pc : Nat} {lo : List (Nat × Value)} {st : List Value} {idx : Nat} {x : Int} {c : CS} {rc : Int → Int} {mm : Int} {aa : Int} (O : zO K X cc own ret nL f) (hN : kN K = 85) (hw : Cond.fieldLink own idx RX1 (TX1 2).2.1 (TX1 2).2.2.1 ∈ zTB) (hd : decode cc pc = .ok (.putfield idx, 3)) (k : G K X nL (pc + 3) lo st (layC K (wE c (rc, mm, x)))) : G K X nL pc lo (.int (iI x) :: .ref (kad K 4) :: st) (layC K (wE c (rc, mm, aa))) := by
  refine r_put (ty := .int) O (by rw [hN]; decide) (show layC K (wE c (rc, mm, aa)) 4 = .inr (1, [.ref (kad K 5), .int (iI mm), .int (iI aa)]) from rfl) zCl1 hw (by decide) rfl (by decide +kernel) rfl rfl (Nat.le_of_ble_eq_true rfl) hd ?_
  exact G_ct (zup_lay (c' := wE c (rc, mm, x)) rfl (fun k hk => match k, hk with
    | 0, _ => rfl
    | 1, _ => rfl
    | 2, _ => rfl
    | 3, _ => rfl
    | 4, h => absurd rfl h
    | 5, _ => rfl
    | 6, _ => rfl
    | 7, _ => rfl
    | 8, _ => rfl
    | 9, _ => rfl
    | 10, _ => rfl
    | 11, _ => rfl
    | 12, _ => rfl
    | _ + 13, _ => rfl)) k
theorem V_get_wh {K : zK} {X : zX} {cc : ByteArray} {own : String} {ret : Option FieldType} {nL f pc : Nat} {lo : List (Nat × Value)} {st : List Value} {idx : Nat} {c : CS} {wh : Int → Int} {mu : Int → Int} {my : Int} (O : zO K X cc own ret nL f) (hN : kN K = 85) (hw : Cond.fieldLink own idx RX2 (TX2 0).2.1 (TX2 0).2.2.1 ∈ zTB) (hd : decode cc pc = .ok (.getfield idx, 3)) (k : G K X nL (pc + 3) lo (.ref (kad K 7) :: st) (layC K (wV c (wh, mu, my)))) : G K X nL pc lo (.ref (kad K 6) :: st) (layC K (wV c (wh, mu, my))) :=
  r_get O (by rw [hN]; decide) (show layC K (wV c (wh, mu, my)) 6 = .inr (2, [.ref (kad K 7), .ref (kad K 8), .int (iI my)]) from rfl) zCl2 hw (by decide) rfl hd k
theorem V_ld_wh {K : zK} {X : zX} {cc : ByteArray} {own : String} {ret : Option FieldType} {nL f pc : Nat} {lo : List (Nat × Value)} {st : List Value} {z : Int} {c : CS} {wh : Int → Int} {mu : Int → Int} {my : Int} (O : zO K X cc own ret nL f) (hN : kN K = 85) (h0 : 0 ≤ z) (h1 : z < 6) (hd : decode cc pc = .ok (.iaload, 1)) (k : G K X nL (pc + 1) lo (.int (iI (wh z)) :: st) (layC K (wV c (wh, mu, my)))) : G K X nL pc lo (.int (iI z) :: .ref (kad K 7) :: st) (layC K (wV c (wh, mu, my))) :=
  r_iald O (by rw [hN]; decide) (show layC K (wV c (wh, mu, my)) 7 = .inl (kI K, 6, .inl (aI wh)) from rfl) h0 h1 (by decide) hd k
theorem V_st_wh {K : zK} {X : zX} {cc : ByteArray} {own : String} {ret : Option FieldType} {nL f pc : Nat} {lo : List (Nat × Value)} {st : List Value} {z x : Int} {c : CS} {wh : Int → Int} {mu : Int → Int} {my : Int} (O : zO K X cc own ret nL f) (hN : kN K = 85) (h0 : 0 ≤ z) (h1 : z < 6) (hd : decode cc pc = .ok (.iastore, 1)) (k : G K X nL (pc + 1) lo st (layC K (wV c (uI wh z x, mu, my)))) : G K X nL pc lo (.int (iI x) :: .int (iI z) :: .ref (kad K 7) :: st) (layC K (wV c (wh, mu, my))) := by
  refine r_iast O (by rw [hN]; decide) (show layC K (wV c (wh, mu, my)) 7 = .inl (kI K, 6, .inl (aI wh)) from rfl) h0 h1 (by decide) hd ?_
  exact G_ct (zup_lay (c' := wV c (uI wh z x, mu, my)) rfl (fun k hk => match k, hk with
    | 0, _ => rfl
    | 1, _ => rfl
    | 2, _ => rfl
    | 3, _ => rfl
    | 4, _ => rfl
    | 5, _ => rfl
    | 6, _ => rfl
    | 7, h => absurd rfl h
    | 8, _ => rfl
    | 9, _ => rfl
    | 10, _ => rfl
    | 11, _ => rfl
    | 12, _ => rfl
    | _ + 13, _ => rfl)) k
theorem V_len_wh {K : zK} {X : zX} {cc : ByteArray} {own : String} {ret : Option FieldType} {nL f pc : Nat} {lo : List (Nat × Value)} {st : List Value} {c : CS} {wh : Int → Int} {mu : Int → Int} {my : Int} (O : zO K X cc own ret nL f) (hN : kN K = 85) (hd : decode cc pc = .ok (.arraylength, 1)) (k : G K X nL (pc + 1) lo (.int (iI 6) :: st) (layC K (wV c (wh, mu, my)))) : G K X nL pc lo (.ref (kad K 7) :: st) (layC K (wV c (wh, mu, my))) :=
  r_alen (n := 6) O (by rw [hN]; decide) (show layC K (wV c (wh, mu, my)) 7 = .inl (kI K, 6, .inl (aI wh)) from rfl) (Or.inl rfl) rfl hd k
theorem V_get_mu {K : zK} {X : zX} {cc : ByteArray} {own : String} {ret : Option FieldType} {nL f pc : Nat} {lo : List (Nat × Value)} {st : List Value} {idx : Nat} {c : CS} {wh : Int → Int} {mu : Int → Int} {my : Int} (O : zO K X cc own ret nL f) (hN : kN K = 85) (hw : Cond.fieldLink own idx RX2 (TX2 1).2.1 (TX2 1).2.2.1 ∈ zTB) (hd : decode cc pc = .ok (.getfield idx, 3)) (k : G K X nL (pc + 3) lo (.ref (kad K 8) :: st) (layC K (wV c (wh, mu, my)))) : G K X nL pc lo (.ref (kad K 6) :: st) (layC K (wV c (wh, mu, my))) :=
  r_get O (by rw [hN]; decide) (show layC K (wV c (wh, mu, my)) 6 = .inr (2, [.ref (kad K 7), .ref (kad K 8), .int (iI my)]) from rfl) zCl2 hw (by decide) rfl hd k
theorem V_ld_mu {K : zK} {X : zX} {cc : ByteArray} {own : String} {ret : Option FieldType} {nL f pc : Nat} {lo : List (Nat × Value)} {st : List Value} {z : Int} {c : CS} {wh : Int → Int} {mu : Int → Int} {my : Int} (O : zO K X cc own ret nL f) (hN : kN K = 85) (h0 : 0 ≤ z) (h1 : z < 6) (hd : decode cc pc = .ok (.iaload, 1)) (k : G K X nL (pc + 1) lo (.int (iI (mu z)) :: st) (layC K (wV c (wh, mu, my)))) : G K X nL pc lo (.int (iI z) :: .ref (kad K 8) :: st) (layC K (wV c (wh, mu, my))) :=
  r_iald O (by rw [hN]; decide) (show layC K (wV c (wh, mu, my)) 8 = .inl (kI K, 6, .inl (aI mu)) from rfl) h0 h1 (by decide) hd k
theorem V_st_mu {K : zK} {X : zX} {cc : ByteArray} {own : String} {ret : Option FieldType} {nL f pc : Nat} {lo : List (Nat × Value)} {st : List Value} {z x : Int} {c : CS} {wh : Int → Int} {mu : Int → Int} {my : Int} (O : zO K X cc own ret nL f) (hN : kN K = 85) (h0 : 0 ≤ z) (h1 : z < 6) (hd : decode cc pc = .ok (.iastore, 1)) (k : G K X nL (pc + 1) lo st (layC K (wV c (wh, uI mu z x, my)))) : G K X nL pc lo (.int (iI x) :: .int (iI z) :: .ref (kad K 8) :: st) (layC K (wV c (wh, mu, my))) := by
  refine r_iast O (by rw [hN]; decide) (show layC K (wV c (wh, mu, my)) 8 = .inl (kI K, 6, .inl (aI mu)) from rfl) h0 h1 (by decide) hd ?_
  exact G_ct (zup_lay (c' := wV c (wh, uI mu z x, my)) rfl (fun k hk => match k, hk with
    | 0, _ => rfl
    | 1, _ => rfl
    | 2, _ => rfl
    | 3, _ => rfl
    | 4, _ => rfl
    | 5, _ => rfl
    | 6, _ => rfl
    | 7, _ => rfl
    | 8, h => absurd rfl h
    | 9, _ => rfl
    | 10, _ => rfl
    | 11, _ => rfl
    | 12, _ => rfl
    | _ + 13, _ => rfl)) k
theorem V_len_mu {K : zK} {X : zX} {cc : ByteArray} {own : String} {ret : Option FieldType} {nL f pc : Nat} {lo : List (Nat × Value)} {st : List Value} {c : CS} {wh : Int → Int} {mu : Int → Int} {my : Int} (O : zO K X cc own ret nL f) (hN : kN K = 85) (hd : decode cc pc = .ok (.arraylength, 1)) (k : G K X nL (pc + 1) lo (.int (iI 6) :: st) (layC K (wV c (wh, mu, my)))) : G K X nL pc lo (.ref (kad K 8) :: st) (layC K (wV c (wh, mu, my))) :=
  r_alen (n := 6) O (by rw [hN]; decide) (show layC K (wV c (wh, mu, my)) 8 = .inl (kI K, 6, .inl (aI mu)) from rfl) (Or.inl rfl) rfl hd k
theorem V_get_my {K : zK} {X : zX} {cc : ByteArray} {own : String} {ret : Option FieldType} {nL f pc : Nat} {lo : List (Nat × Value)} {st : List Value} {idx : Nat} {c : CS} {wh : Int → Int} {mu : Int → Int} {my : Int} (O : zO K X cc own ret nL f) (hN : kN K = 85) (hw : Cond.fieldLink own idx RX2 (TX2 2).2.1 (TX2 2).2.2.1 ∈ zTB) (hd : decode cc pc = .ok (.getfield idx, 3)) (k : G K X nL (pc + 3) lo (.int (iI my) :: st) (layC K (wV c (wh, mu, my)))) : G K X nL pc lo (.ref (kad K 6) :: st) (layC K (wV c (wh, mu, my))) :=
  r_get O (by rw [hN]; decide) (show layC K (wV c (wh, mu, my)) 6 = .inr (2, [.ref (kad K 7), .ref (kad K 8), .int (iI my)]) from rfl) zCl2 hw (by decide) rfl hd k
theorem V_put_my {K : zK} {X : zX} {cc : ByteArray} {own : String} {ret : Option FieldType} {nL f pc : Nat} {lo : List (Nat × Value)} {st : List Value} {idx : Nat} {x : Int} {c : CS} {wh : Int → Int} {mu : Int → Int} {my : Int} (O : zO K X cc own ret nL f) (hN : kN K = 85) (hw : Cond.fieldLink own idx RX2 (TX2 2).2.1 (TX2 2).2.2.1 ∈ zTB) (hd : decode cc pc = .ok (.putfield idx, 3)) (k : G K X nL (pc + 3) lo st (layC K (wV c (wh, mu, x)))) : G K X nL pc lo (.int (iI x) :: .ref (kad K 6) :: st) (layC K (wV c (wh, mu, my))) := by
  refine r_put (ty := .int) O (by rw [hN]; decide) (show layC K (wV c (wh, mu, my)) 6 = .inr (2, [.ref (kad K 7), .ref (kad K 8), .int (iI my)]) from rfl) zCl2 hw (by decide) rfl (by decide +kernel) rfl rfl (Nat.le_of_ble_eq_true rfl) hd ?_
  exact G_ct (zup_lay (c' := wV c (wh, mu, x)) rfl (fun k hk => match k, hk with
    | 0, _ => rfl
    | 1, _ => rfl
    | 2, _ => rfl
    | 3, _ => rfl
    | 4, _ => rfl
    | 5, _ => rfl
    | 6, h => absurd rfl h
    | 7, _ => rfl
    | 8, _ => rfl
    | 9, _ => rfl
    | 10, _ => rfl
    | 11, _ => rfl
    | 12, _ => rfl
    | _ + 13, _ => rfl)) k
theorem U_get_pm {K : zK} {X : zX} {cc : ByteArray} {own : String} {ret : Option FieldType} {nL f pc : Nat} {lo : List (Nat × Value)} {st : List Value} {idx : Nat} {c : CS} {pm : Int → Nat} {my : Int} (O : zO K X cc own ret nL f) (hN : kN K = 85) (hw : Cond.fieldLink own idx RX0 (TX0 0).2.1 (TX0 0).2.2.1 ∈ zTB) (hd : decode cc pc = .ok (.getfield idx, 3)) (k : G K X nL (pc + 3) lo (.ref (kad K 10) :: st) (layC K (wU c (pm, my)))) : G K X nL pc lo (.ref (kad K 9) :: st) (layC K (wU c (pm, my))) :=
  r_get O (by rw [hN]; decide) (show layC K (wU c (pm, my)) 9 = .inr (0, [.ref (kad K 10), .int (iI my)]) from rfl) zCl0 hw (by decide) rfl hd k
theorem U_ld_pm {K : zK} {X : zX} {cc : ByteArray} {own : String} {ret : Option FieldType} {nL f pc : Nat} {lo : List (Nat × Value)} {st : List Value} {z : Int} {c : CS} {pm : Int → Nat} {my : Int} (O : zO K X cc own ret nL f) (hN : kN K = 85) (h0 : 0 ≤ z) (h1 : z < 8) (hd : decode cc pc = .ok (.aaload, 1)) (k : G K X nL (pc + 1) lo (.ref (kad K (6 * pm z + 13)) :: st) (layC K (wU c (pm, my)))) : G K X nL pc lo (.int (iI z) :: .ref (kad K 10) :: st) (layC K (wU c (pm, my))) :=
  r_aald O (by rw [hN]; decide) (show layC K (wU c (pm, my)) 10 = .inl (kS K, 8, .inr (.inr (.inr (.inr (rI K (pileC pm)))))) from rfl) h0 h1 (by decide) hd k
theorem U_st_pm {K : zK} {X : zX} {cc : ByteArray} {own : String} {ret : Option FieldType} {nL f pc : Nat} {lo : List (Nat × Value)} {st : List Value} {z : Int} {j : Nat} {c : CS} {pm : Int → Nat} {my : Int} (O : zO K X cc own ret nL f) (hN : kN K = 85) (hj : j < 12) (h0 : 0 ≤ z) (h1 : z < 8) (hd : decode cc pc = .ok (.aastore, 1)) (k : G K X nL (pc + 1) lo st (layC K (wU c (uN' pm z j, my)))) : G K X nL pc lo (.ref (kad K (6 * j + 13)) :: .int (iI z) :: .ref (kad K 10) :: st) (layC K (wU c (pm, my))) := by
  refine r_aast O (by rw [hN]; decide) (show layC K (wU c (pm, my)) 10 = .inl (kS K, 8, .inr (.inr (.inr (.inr (rI K (pileC pm)))))) from rfl) (by rw [hN]; omega) (lay_j0 K _ j) h0 h1 (by decide) hd ?_
  rw [pileC_up]
  exact G_ct (zup_lay (c' := wU c (uN' pm z j, my)) rfl (fun k hk => match k, hk with
    | 0, _ => rfl
    | 1, _ => rfl
    | 2, _ => rfl
    | 3, _ => rfl
    | 4, _ => rfl
    | 5, _ => rfl
    | 6, _ => rfl
    | 7, _ => rfl
    | 8, _ => rfl
    | 9, _ => rfl
    | 10, h => absurd rfl h
    | 11, _ => rfl
    | 12, _ => rfl
    | _ + 13, _ => rfl)) k
theorem U_len_pm {K : zK} {X : zX} {cc : ByteArray} {own : String} {ret : Option FieldType} {nL f pc : Nat} {lo : List (Nat × Value)} {st : List Value} {c : CS} {pm : Int → Nat} {my : Int} (O : zO K X cc own ret nL f) (hN : kN K = 85) (hd : decode cc pc = .ok (.arraylength, 1)) (k : G K X nL (pc + 1) lo (.int (iI 8) :: st) (layC K (wU c (pm, my)))) : G K X nL pc lo (.ref (kad K 10) :: st) (layC K (wU c (pm, my))) :=
  r_alen (n := 8) O (by rw [hN]; decide) (show layC K (wU c (pm, my)) 10 = .inl (kS K, 8, .inr (.inr (.inr (.inr (rI K (pileC pm)))))) from rfl) (Or.inr (Or.inr rfl)) rfl hd k
theorem U_get_my {K : zK} {X : zX} {cc : ByteArray} {own : String} {ret : Option FieldType} {nL f pc : Nat} {lo : List (Nat × Value)} {st : List Value} {idx : Nat} {c : CS} {pm : Int → Nat} {my : Int} (O : zO K X cc own ret nL f) (hN : kN K = 85) (hw : Cond.fieldLink own idx RX0 (TX0 1).2.1 (TX0 1).2.2.1 ∈ zTB) (hd : decode cc pc = .ok (.getfield idx, 3)) (k : G K X nL (pc + 3) lo (.int (iI my) :: st) (layC K (wU c (pm, my)))) : G K X nL pc lo (.ref (kad K 9) :: st) (layC K (wU c (pm, my))) :=
  r_get O (by rw [hN]; decide) (show layC K (wU c (pm, my)) 9 = .inr (0, [.ref (kad K 10), .int (iI my)]) from rfl) zCl0 hw (by decide) rfl hd k
theorem U_put_my {K : zK} {X : zX} {cc : ByteArray} {own : String} {ret : Option FieldType} {nL f pc : Nat} {lo : List (Nat × Value)} {st : List Value} {idx : Nat} {x : Int} {c : CS} {pm : Int → Nat} {my : Int} (O : zO K X cc own ret nL f) (hN : kN K = 85) (hw : Cond.fieldLink own idx RX0 (TX0 1).2.1 (TX0 1).2.2.1 ∈ zTB) (hd : decode cc pc = .ok (.putfield idx, 3)) (k : G K X nL (pc + 3) lo st (layC K (wU c (pm, x)))) : G K X nL pc lo (.int (iI x) :: .ref (kad K 9) :: st) (layC K (wU c (pm, my))) := by
  refine r_put (ty := .int) O (by rw [hN]; decide) (show layC K (wU c (pm, my)) 9 = .inr (0, [.ref (kad K 10), .int (iI my)]) from rfl) zCl0 hw (by decide) rfl (by decide +kernel) rfl rfl (Nat.le_of_ble_eq_true rfl) hd ?_
  exact G_ct (zup_lay (c' := wU c (pm, x)) rfl (fun k hk => match k, hk with
    | 0, _ => rfl
    | 1, _ => rfl
    | 2, _ => rfl
    | 3, _ => rfl
    | 4, _ => rfl
    | 5, _ => rfl
    | 6, _ => rfl
    | 7, _ => rfl
    | 8, _ => rfl
    | 9, h => absurd rfl h
    | 10, _ => rfl
    | 11, _ => rfl
    | 12, _ => rfl
    | _ + 13, _ => rfl)) k
theorem P_get_pm {K : zK} {X : zX} {cc : ByteArray} {own : String} {ret : Option FieldType} {nL f pc : Nat} {lo : List (Nat × Value)} {st : List Value} {idx : Nat} {c : CS} {pm : Int → Nat} {my : Int} (O : zO K X cc own ret nL f) (hN : kN K = 85) (hw : Cond.fieldLink own idx RX0 (TX0 0).2.1 (TX0 0).2.2.1 ∈ zTB) (hd : decode cc pc = .ok (.getfield idx, 3)) (k : G K X nL (pc + 3) lo (.ref (kad K 12) :: st) (layC K (wP c (pm, my)))) : G K X nL pc lo (.ref (kad K 11) :: st) (layC K (wP c (pm, my))) :=
  r_get O (by rw [hN]; decide) (show layC K (wP c (pm, my)) 11 = .inr (0, [.ref (kad K 12), .int (iI my)]) from rfl) zCl0 hw (by decide) rfl hd k
theorem P_ld_pm {K : zK} {X : zX} {cc : ByteArray} {own : String} {ret : Option FieldType} {nL f pc : Nat} {lo : List (Nat × Value)} {st : List Value} {z : Int} {c : CS} {pm : Int → Nat} {my : Int} (O : zO K X cc own ret nL f) (hN : kN K = 85) (h0 : 0 ≤ z) (h1 : z < 2) (hd : decode cc pc = .ok (.aaload, 1)) (k : G K X nL (pc + 1) lo (.ref (kad K (6 * pm z + 13)) :: st) (layC K (wP c (pm, my)))) : G K X nL pc lo (.int (iI z) :: .ref (kad K 12) :: st) (layC K (wP c (pm, my))) :=
  r_aald O (by rw [hN]; decide) (show layC K (wP c (pm, my)) 12 = .inl (kS K, 2, .inr (.inr (.inr (.inr (rI K (pileC pm)))))) from rfl) h0 h1 (by decide) hd k
theorem P_st_pm {K : zK} {X : zX} {cc : ByteArray} {own : String} {ret : Option FieldType} {nL f pc : Nat} {lo : List (Nat × Value)} {st : List Value} {z : Int} {j : Nat} {c : CS} {pm : Int → Nat} {my : Int} (O : zO K X cc own ret nL f) (hN : kN K = 85) (hj : j < 12) (h0 : 0 ≤ z) (h1 : z < 2) (hd : decode cc pc = .ok (.aastore, 1)) (k : G K X nL (pc + 1) lo st (layC K (wP c (uN' pm z j, my)))) : G K X nL pc lo (.ref (kad K (6 * j + 13)) :: .int (iI z) :: .ref (kad K 12) :: st) (layC K (wP c (pm, my))) := by
  refine r_aast O (by rw [hN]; decide) (show layC K (wP c (pm, my)) 12 = .inl (kS K, 2, .inr (.inr (.inr (.inr (rI K (pileC pm)))))) from rfl) (by rw [hN]; omega) (lay_j0 K _ j) h0 h1 (by decide) hd ?_
  rw [pileC_up]
  exact G_ct (zup_lay (c' := wP c (uN' pm z j, my)) rfl (fun k hk => match k, hk with
    | 0, _ => rfl
    | 1, _ => rfl
    | 2, _ => rfl
    | 3, _ => rfl
    | 4, _ => rfl
    | 5, _ => rfl
    | 6, _ => rfl
    | 7, _ => rfl
    | 8, _ => rfl
    | 9, _ => rfl
    | 10, _ => rfl
    | 11, _ => rfl
    | 12, h => absurd rfl h
    | _ + 13, _ => rfl)) k
theorem P_len_pm {K : zK} {X : zX} {cc : ByteArray} {own : String} {ret : Option FieldType} {nL f pc : Nat} {lo : List (Nat × Value)} {st : List Value} {c : CS} {pm : Int → Nat} {my : Int} (O : zO K X cc own ret nL f) (hN : kN K = 85) (hd : decode cc pc = .ok (.arraylength, 1)) (k : G K X nL (pc + 1) lo (.int (iI 2) :: st) (layC K (wP c (pm, my)))) : G K X nL pc lo (.ref (kad K 12) :: st) (layC K (wP c (pm, my))) :=
  r_alen (n := 2) O (by rw [hN]; decide) (show layC K (wP c (pm, my)) 12 = .inl (kS K, 2, .inr (.inr (.inr (.inr (rI K (pileC pm)))))) from rfl) (Or.inr (Or.inr rfl)) rfl hd k
theorem P_get_my {K : zK} {X : zX} {cc : ByteArray} {own : String} {ret : Option FieldType} {nL f pc : Nat} {lo : List (Nat × Value)} {st : List Value} {idx : Nat} {c : CS} {pm : Int → Nat} {my : Int} (O : zO K X cc own ret nL f) (hN : kN K = 85) (hw : Cond.fieldLink own idx RX0 (TX0 1).2.1 (TX0 1).2.2.1 ∈ zTB) (hd : decode cc pc = .ok (.getfield idx, 3)) (k : G K X nL (pc + 3) lo (.int (iI my) :: st) (layC K (wP c (pm, my)))) : G K X nL pc lo (.ref (kad K 11) :: st) (layC K (wP c (pm, my))) :=
  r_get O (by rw [hN]; decide) (show layC K (wP c (pm, my)) 11 = .inr (0, [.ref (kad K 12), .int (iI my)]) from rfl) zCl0 hw (by decide) rfl hd k
theorem P_put_my {K : zK} {X : zX} {cc : ByteArray} {own : String} {ret : Option FieldType} {nL f pc : Nat} {lo : List (Nat × Value)} {st : List Value} {idx : Nat} {x : Int} {c : CS} {pm : Int → Nat} {my : Int} (O : zO K X cc own ret nL f) (hN : kN K = 85) (hw : Cond.fieldLink own idx RX0 (TX0 1).2.1 (TX0 1).2.2.1 ∈ zTB) (hd : decode cc pc = .ok (.putfield idx, 3)) (k : G K X nL (pc + 3) lo st (layC K (wP c (pm, x)))) : G K X nL pc lo (.int (iI x) :: .ref (kad K 11) :: st) (layC K (wP c (pm, my))) := by
  refine r_put (ty := .int) O (by rw [hN]; decide) (show layC K (wP c (pm, my)) 11 = .inr (0, [.ref (kad K 12), .int (iI my)]) from rfl) zCl0 hw (by decide) rfl (by decide +kernel) rfl rfl (Nat.le_of_ble_eq_true rfl) hd ?_
  exact G_ct (zup_lay (c' := wP c (pm, x)) rfl (fun k hk => match k, hk with
    | 0, _ => rfl
    | 1, _ => rfl
    | 2, _ => rfl
    | 3, _ => rfl
    | 4, _ => rfl
    | 5, _ => rfl
    | 6, _ => rfl
    | 7, _ => rfl
    | 8, _ => rfl
    | 9, _ => rfl
    | 10, _ => rfl
    | 11, h => absurd rfl h
    | 12, _ => rfl
    | _ + 13, _ => rfl)) k
theorem O_get_0 {K : zK} {X : zX} {cc : ByteArray} {own : String} {ret : Option FieldType} {nL f pc : Nat} {lo : List (Nat × Value)} {st : List Value} {idx : Nat} {c : CS} (O : zO K X cc own ret nL f) (hN : kN K = 85) (hw : Cond.fieldLink own idx RX5 (TX5 0).2.1 (TX5 0).2.2.1 ∈ zTB) (hd : decode cc pc = .ok (.getfield idx, 3)) (k : G K X nL (pc + 3) lo (.ref (kad K 1) :: st) (layC K c)) : G K X nL pc lo (.ref (kad K 0) :: st) (layC K c) :=
  r_get O (by rw [hN]; decide) (show layC K c 0 = .inr (5, [.ref (kad K 1), .ref (kad K (6 * 0 + 13)), .ref (kad K (6 * 1 + 13)), .ref (kad K 4), .ref (kad K 6), .ref (kad K 9), .ref (kad K 11)]) from rfl) zCl5 hw (by decide) rfl hd k
theorem O_get_1 {K : zK} {X : zX} {cc : ByteArray} {own : String} {ret : Option FieldType} {nL f pc : Nat} {lo : List (Nat × Value)} {st : List Value} {idx : Nat} {c : CS} (O : zO K X cc own ret nL f) (hN : kN K = 85) (hw : Cond.fieldLink own idx RX5 (TX5 1).2.1 (TX5 1).2.2.1 ∈ zTB) (hd : decode cc pc = .ok (.getfield idx, 3)) (k : G K X nL (pc + 3) lo (.ref (kad K (6 * 0 + 13)) :: st) (layC K c)) : G K X nL pc lo (.ref (kad K 0) :: st) (layC K c) :=
  r_get O (by rw [hN]; decide) (show layC K c 0 = .inr (5, [.ref (kad K 1), .ref (kad K (6 * 0 + 13)), .ref (kad K (6 * 1 + 13)), .ref (kad K 4), .ref (kad K 6), .ref (kad K 9), .ref (kad K 11)]) from rfl) zCl5 hw (by decide) rfl hd k
theorem O_get_2 {K : zK} {X : zX} {cc : ByteArray} {own : String} {ret : Option FieldType} {nL f pc : Nat} {lo : List (Nat × Value)} {st : List Value} {idx : Nat} {c : CS} (O : zO K X cc own ret nL f) (hN : kN K = 85) (hw : Cond.fieldLink own idx RX5 (TX5 2).2.1 (TX5 2).2.2.1 ∈ zTB) (hd : decode cc pc = .ok (.getfield idx, 3)) (k : G K X nL (pc + 3) lo (.ref (kad K (6 * 1 + 13)) :: st) (layC K c)) : G K X nL pc lo (.ref (kad K 0) :: st) (layC K c) :=
  r_get O (by rw [hN]; decide) (show layC K c 0 = .inr (5, [.ref (kad K 1), .ref (kad K (6 * 0 + 13)), .ref (kad K (6 * 1 + 13)), .ref (kad K 4), .ref (kad K 6), .ref (kad K 9), .ref (kad K 11)]) from rfl) zCl5 hw (by decide) rfl hd k
theorem O_get_3 {K : zK} {X : zX} {cc : ByteArray} {own : String} {ret : Option FieldType} {nL f pc : Nat} {lo : List (Nat × Value)} {st : List Value} {idx : Nat} {c : CS} (O : zO K X cc own ret nL f) (hN : kN K = 85) (hw : Cond.fieldLink own idx RX5 (TX5 3).2.1 (TX5 3).2.2.1 ∈ zTB) (hd : decode cc pc = .ok (.getfield idx, 3)) (k : G K X nL (pc + 3) lo (.ref (kad K 4) :: st) (layC K c)) : G K X nL pc lo (.ref (kad K 0) :: st) (layC K c) :=
  r_get O (by rw [hN]; decide) (show layC K c 0 = .inr (5, [.ref (kad K 1), .ref (kad K (6 * 0 + 13)), .ref (kad K (6 * 1 + 13)), .ref (kad K 4), .ref (kad K 6), .ref (kad K 9), .ref (kad K 11)]) from rfl) zCl5 hw (by decide) rfl hd k
theorem O_get_4 {K : zK} {X : zX} {cc : ByteArray} {own : String} {ret : Option FieldType} {nL f pc : Nat} {lo : List (Nat × Value)} {st : List Value} {idx : Nat} {c : CS} (O : zO K X cc own ret nL f) (hN : kN K = 85) (hw : Cond.fieldLink own idx RX5 (TX5 4).2.1 (TX5 4).2.2.1 ∈ zTB) (hd : decode cc pc = .ok (.getfield idx, 3)) (k : G K X nL (pc + 3) lo (.ref (kad K 6) :: st) (layC K c)) : G K X nL pc lo (.ref (kad K 0) :: st) (layC K c) :=
  r_get O (by rw [hN]; decide) (show layC K c 0 = .inr (5, [.ref (kad K 1), .ref (kad K (6 * 0 + 13)), .ref (kad K (6 * 1 + 13)), .ref (kad K 4), .ref (kad K 6), .ref (kad K 9), .ref (kad K 11)]) from rfl) zCl5 hw (by decide) rfl hd k
theorem O_get_5 {K : zK} {X : zX} {cc : ByteArray} {own : String} {ret : Option FieldType} {nL f pc : Nat} {lo : List (Nat × Value)} {st : List Value} {idx : Nat} {c : CS} (O : zO K X cc own ret nL f) (hN : kN K = 85) (hw : Cond.fieldLink own idx RX5 (TX5 5).2.1 (TX5 5).2.2.1 ∈ zTB) (hd : decode cc pc = .ok (.getfield idx, 3)) (k : G K X nL (pc + 3) lo (.ref (kad K 9) :: st) (layC K c)) : G K X nL pc lo (.ref (kad K 0) :: st) (layC K c) :=
  r_get O (by rw [hN]; decide) (show layC K c 0 = .inr (5, [.ref (kad K 1), .ref (kad K (6 * 0 + 13)), .ref (kad K (6 * 1 + 13)), .ref (kad K 4), .ref (kad K 6), .ref (kad K 9), .ref (kad K 11)]) from rfl) zCl5 hw (by decide) rfl hd k
theorem O_get_6 {K : zK} {X : zX} {cc : ByteArray} {own : String} {ret : Option FieldType} {nL f pc : Nat} {lo : List (Nat × Value)} {st : List Value} {idx : Nat} {c : CS} (O : zO K X cc own ret nL f) (hN : kN K = 85) (hw : Cond.fieldLink own idx RX5 (TX5 6).2.1 (TX5 6).2.2.1 ∈ zTB) (hd : decode cc pc = .ok (.getfield idx, 3)) (k : G K X nL (pc + 3) lo (.ref (kad K 11) :: st) (layC K c)) : G K X nL pc lo (.ref (kad K 0) :: st) (layC K c) :=
  r_get O (by rw [hN]; decide) (show layC K c 0 = .inr (5, [.ref (kad K 1), .ref (kad K (6 * 0 + 13)), .ref (kad K (6 * 1 + 13)), .ref (kad K 4), .ref (kad K 6), .ref (kad K 9), .ref (kad K 11)]) from rfl) zCl5 hw (by decide) rfl hd k
theorem A_get_T_le {K : zK} {X : zX} {cc : ByteArray} {own : String} {ret : Option FieldType} {nL f pc : Nat} {lo : List (Nat × Value)} {st : List Value} {idx : Nat} {c : CS} (O : zO K X cc own ret nL f) (hN : kN K = 85) (hw : Cond.fieldLink own idx RX4 (TX4 2).2.1 (TX4 2).2.2.1 ∈ zTB) (hd : decode cc pc = .ok (.getfield idx, 3)) (k : G K X nL (pc + 3) lo (.int (iI c.2.1.2.2) :: st) (layC K c)) : G K X nL pc lo (.ref (kad K 1) :: st) (layC K c) :=
  r_get O (by rw [hN]; decide) (show layC K c 1 = .inr (4, [.ref (kad K 2), .ref (kad K 3), .int (iI c.2.1.2.2)]) from rfl) zCl4 hw (by decide) rfl hd k
theorem A_get_V_my {K : zK} {X : zX} {cc : ByteArray} {own : String} {ret : Option FieldType} {nL f pc : Nat} {lo : List (Nat × Value)} {st : List Value} {idx : Nat} {c : CS} (O : zO K X cc own ret nL f) (hN : kN K = 85) (hw : Cond.fieldLink own idx RX2 (TX2 2).2.1 (TX2 2).2.2.1 ∈ zTB) (hd : decode cc pc = .ok (.getfield idx, 3)) (k : G K X nL (pc + 3) lo (.int (iI c.2.2.2.1.2.2) :: st) (layC K c)) : G K X nL pc lo (.ref (kad K 6) :: st) (layC K c) :=
  r_get O (by rw [hN]; decide) (show layC K c 6 = .inr (2, [.ref (kad K 7), .ref (kad K 8), .int (iI c.2.2.2.1.2.2)]) from rfl) zCl2 hw (by decide) rfl hd k
theorem A_get_U_my {K : zK} {X : zX} {cc : ByteArray} {own : String} {ret : Option FieldType} {nL f pc : Nat} {lo : List (Nat × Value)} {st : List Value} {idx : Nat} {c : CS} (O : zO K X cc own ret nL f) (hN : kN K = 85) (hw : Cond.fieldLink own idx RX0 (TX0 1).2.1 (TX0 1).2.2.1 ∈ zTB) (hd : decode cc pc = .ok (.getfield idx, 3)) (k : G K X nL (pc + 3) lo (.int (iI c.2.2.2.2.1.2) :: st) (layC K c)) : G K X nL pc lo (.ref (kad K 9) :: st) (layC K c) :=
  r_get O (by rw [hN]; decide) (show layC K c 9 = .inr (0, [.ref (kad K 10), .int (iI c.2.2.2.2.1.2)]) from rfl) zCl0 hw (by decide) rfl hd k
theorem A_get_P_my {K : zK} {X : zX} {cc : ByteArray} {own : String} {ret : Option FieldType} {nL f pc : Nat} {lo : List (Nat × Value)} {st : List Value} {idx : Nat} {c : CS} (O : zO K X cc own ret nL f) (hN : kN K = 85) (hw : Cond.fieldLink own idx RX0 (TX0 1).2.1 (TX0 1).2.2.1 ∈ zTB) (hd : decode cc pc = .ok (.getfield idx, 3)) (k : G K X nL (pc + 3) lo (.int (iI c.2.2.2.2.2.2) :: st) (layC K c)) : G K X nL pc lo (.ref (kad K 11) :: st) (layC K c) :=
  r_get O (by rw [hN]; decide) (show layC K c 11 = .inr (0, [.ref (kad K 12), .int (iI c.2.2.2.2.2.2)]) from rfl) zCl0 hw (by decide) rfl hd k
