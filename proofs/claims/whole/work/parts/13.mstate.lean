/-- the reference: text, typed, told, draft, begun, s, past, known, images, kept, notes, noted, at, last, held, tried -/
def layM (K : zK) (tx : Int → Int) (ty : Int) (td : Int → Int) (dr : Int → Int) (bg : Int → Int) (ss : Int → Int) (pa : Int → Int) (kn : Int) (im : Int → Int) (kp : Int) (ns : Int → Int) (nd : Int) (ap : Int) (la : Int) (hh : Int → Int) (tt : Int → Int) : zE := fun k => match k with
    | 0 => .inr (6, [.ref (kad K 1), .int (iI ty), .ref (kad K 2), .ref (kad K 3), .ref (kad K 4), .ref (kad K 5), .ref (kad K 6), .int (iI kn), .ref (kad K 7), .int (iI kp), .ref (kad K 8), .int (iI nd), .int (iI ap), .int (iI la), .ref (kad K 9), .ref (kad K 10)])
    | 1 => .inl (kI K, 200, .inl (aI tx))
    | 2 => .inl (kI K, 10, .inl (aI td))
    | 3 => .inl (kI K, 10, .inl (aI dr))
    | 4 => .inl (kI K, 31, .inl (aI bg))
    | 5 => .inl (kI K, 31, .inl (aI ss))
    | 6 => .inl (kI K, 248, .inl (aI pa))
    | 7 => .inl (kI K, 62, .inl (aI im))
    | 8 => .inl (kI K, 6, .inl (aI ns))
    | 9 => .inl (kI K, 31, .inl (aI hh))
    | _ => .inl (kI K, 31, .inl (aI tt))
theorem zup_M {e0 e1 : zE} {q : Nat} {e : va_E} (h1 : e1 q = e) (h2 : ∀ k, k ≠ q → e1 k = e0 k) : zup e0 q e = e1 := by
  funext k
  unfold zup
  by_cases h : k = q
  · rw [if_pos h, h, h1]
  · rw [if_neg h, h2 k h]
/-- two worlds that are the same on the cells that there are -/
theorem G_eqN {K : zK} {X : zX} {nL pc : Nat} {lo : List (Nat × Value)} {st : List Value} {ct ct' : zE} (h : ∀ q : Nat, q < kN K → ct q = ct' q) (k : G K X nL pc lo st ct') : G K X nL pc lo st ct := by
  have e : zwl K ct = zwl K ct' := by
    unfold zwl
    exact List.map_congr_left (fun q hq => by rw [h q (List.mem_range.mp hq)])
  intro H locs ls hP hS hl
  rw [e] at hP
  exact k H locs ls hP hS hl
theorem m_get_tx {K : zK} {X : zX} {cc : ByteArray} {own : String} {ret : Option FieldType} {nL f pc : Nat} {lo : List (Nat × Value)} {st : List Value} {idx : Nat} {tx : Int → Int} {ty : Int} {td : Int → Int} {dr : Int → Int} {bg : Int → Int} {ss : Int → Int} {pa : Int → Int} {kn : Int} {im : Int → Int} {kp : Int} {ns : Int → Int} {nd : Int} {ap : Int} {la : Int} {hh : Int → Int} {tt : Int → Int} (O : zO K X cc own ret nL f) (hM : kN K = 11) (hw : Cond.fieldLink own idx RX6 (TX6 0).2.1 (TX6 0).2.2.1 ∈ zTB) (hd : decode cc pc = .ok (.getfield idx, 3)) (k : G K X nL (pc + 3) lo (.ref (kad K 1) :: st) (layM K tx ty td dr bg ss pa kn im kp ns nd ap la hh tt)) : G K X nL pc lo (.ref (kad K 0) :: st) (layM K tx ty td dr bg ss pa kn im kp ns nd ap la hh tt) :=
  r_get O (by rw [hM]; decide) (show layM K tx ty td dr bg ss pa kn im kp ns nd ap la hh tt 0 = .inr (6, [.ref (kad K 1), .int (iI ty), .ref (kad K 2), .ref (kad K 3), .ref (kad K 4), .ref (kad K 5), .ref (kad K 6), .int (iI kn), .ref (kad K 7), .int (iI kp), .ref (kad K 8), .int (iI nd), .int (iI ap), .int (iI la), .ref (kad K 9), .ref (kad K 10)]) from rfl) zCl6 hw (by decide) rfl hd k
theorem m_ld_tx {K : zK} {X : zX} {cc : ByteArray} {own : String} {ret : Option FieldType} {nL f pc : Nat} {lo : List (Nat × Value)} {st : List Value} {z : Int} {tx : Int → Int} {ty : Int} {td : Int → Int} {dr : Int → Int} {bg : Int → Int} {ss : Int → Int} {pa : Int → Int} {kn : Int} {im : Int → Int} {kp : Int} {ns : Int → Int} {nd : Int} {ap : Int} {la : Int} {hh : Int → Int} {tt : Int → Int} (O : zO K X cc own ret nL f) (hM : kN K = 11) (h0 : 0 ≤ z) (h1 : z < 200) (hd : decode cc pc = .ok (.iaload, 1)) (k : G K X nL (pc + 1) lo (.int (iI (tx z)) :: st) (layM K tx ty td dr bg ss pa kn im kp ns nd ap la hh tt)) : G K X nL pc lo (.int (iI z) :: .ref (kad K 1) :: st) (layM K tx ty td dr bg ss pa kn im kp ns nd ap la hh tt) :=
  r_iald O (by rw [hM]; decide) (show layM K tx ty td dr bg ss pa kn im kp ns nd ap la hh tt 1 = .inl (kI K, 200, .inl (aI tx)) from rfl) h0 h1 (by decide) hd k
theorem m_st_tx {K : zK} {X : zX} {cc : ByteArray} {own : String} {ret : Option FieldType} {nL f pc : Nat} {lo : List (Nat × Value)} {st : List Value} {z x : Int} {tx : Int → Int} {ty : Int} {td : Int → Int} {dr : Int → Int} {bg : Int → Int} {ss : Int → Int} {pa : Int → Int} {kn : Int} {im : Int → Int} {kp : Int} {ns : Int → Int} {nd : Int} {ap : Int} {la : Int} {hh : Int → Int} {tt : Int → Int} (O : zO K X cc own ret nL f) (hM : kN K = 11) (h0 : 0 ≤ z) (h1 : z < 200) (hd : decode cc pc = .ok (.iastore, 1)) (k : G K X nL (pc + 1) lo st (layM K (uI tx z x) ty td dr bg ss pa kn im kp ns nd ap la hh tt)) : G K X nL pc lo (.int (iI x) :: .int (iI z) :: .ref (kad K 1) :: st) (layM K tx ty td dr bg ss pa kn im kp ns nd ap la hh tt) := by
  refine r_iast O (by rw [hM]; decide) (show layM K tx ty td dr bg ss pa kn im kp ns nd ap la hh tt 1 = .inl (kI K, 200, .inl (aI tx)) from rfl) h0 h1 (by decide) hd ?_
  exact G_ct (zup_M (e1 := layM K (uI tx z x) ty td dr bg ss pa kn im kp ns nd ap la hh tt) rfl (fun k hk => match k, hk with
    | 0, _ => rfl
    | 1, h => absurd rfl h
    | 2, _ => rfl
    | 3, _ => rfl
    | 4, _ => rfl
    | 5, _ => rfl
    | 6, _ => rfl
    | 7, _ => rfl
    | 8, _ => rfl
    | 9, _ => rfl
    | _ + 10, _ => rfl)) k
theorem m_get_ty {K : zK} {X : zX} {cc : ByteArray} {own : String} {ret : Option FieldType} {nL f pc : Nat} {lo : List (Nat × Value)} {st : List Value} {idx : Nat} {tx : Int → Int} {ty : Int} {td : Int → Int} {dr : Int → Int} {bg : Int → Int} {ss : Int → Int} {pa : Int → Int} {kn : Int} {im : Int → Int} {kp : Int} {ns : Int → Int} {nd : Int} {ap : Int} {la : Int} {hh : Int → Int} {tt : Int → Int} (O : zO K X cc own ret nL f) (hM : kN K = 11) (hw : Cond.fieldLink own idx RX6 (TX6 1).2.1 (TX6 1).2.2.1 ∈ zTB) (hd : decode cc pc = .ok (.getfield idx, 3)) (k : G K X nL (pc + 3) lo (.int (iI ty) :: st) (layM K tx ty td dr bg ss pa kn im kp ns nd ap la hh tt)) : G K X nL pc lo (.ref (kad K 0) :: st) (layM K tx ty td dr bg ss pa kn im kp ns nd ap la hh tt) :=
  r_get O (by rw [hM]; decide) (show layM K tx ty td dr bg ss pa kn im kp ns nd ap la hh tt 0 = .inr (6, [.ref (kad K 1), .int (iI ty), .ref (kad K 2), .ref (kad K 3), .ref (kad K 4), .ref (kad K 5), .ref (kad K 6), .int (iI kn), .ref (kad K 7), .int (iI kp), .ref (kad K 8), .int (iI nd), .int (iI ap), .int (iI la), .ref (kad K 9), .ref (kad K 10)]) from rfl) zCl6 hw (by decide) rfl hd k
theorem m_put_ty {K : zK} {X : zX} {cc : ByteArray} {own : String} {ret : Option FieldType} {nL f pc : Nat} {lo : List (Nat × Value)} {st : List Value} {idx : Nat} {x : Int} {tx : Int → Int} {ty : Int} {td : Int → Int} {dr : Int → Int} {bg : Int → Int} {ss : Int → Int} {pa : Int → Int} {kn : Int} {im : Int → Int} {kp : Int} {ns : Int → Int} {nd : Int} {ap : Int} {la : Int} {hh : Int → Int} {tt : Int → Int} (O : zO K X cc own ret nL f) (hM : kN K = 11) (hw : Cond.fieldLink own idx RX6 (TX6 1).2.1 (TX6 1).2.2.1 ∈ zTB) (hd : decode cc pc = .ok (.putfield idx, 3)) (k : G K X nL (pc + 3) lo st (layM K tx x td dr bg ss pa kn im kp ns nd ap la hh tt)) : G K X nL pc lo (.int (iI x) :: .ref (kad K 0) :: st) (layM K tx ty td dr bg ss pa kn im kp ns nd ap la hh tt) := by
  refine r_put (ty := .int) O (by rw [hM]; decide) (show layM K tx ty td dr bg ss pa kn im kp ns nd ap la hh tt 0 = .inr (6, [.ref (kad K 1), .int (iI ty), .ref (kad K 2), .ref (kad K 3), .ref (kad K 4), .ref (kad K 5), .ref (kad K 6), .int (iI kn), .ref (kad K 7), .int (iI kp), .ref (kad K 8), .int (iI nd), .int (iI ap), .int (iI la), .ref (kad K 9), .ref (kad K 10)]) from rfl) zCl6 hw (by decide) rfl (by decide +kernel) rfl rfl (Nat.le_of_ble_eq_true rfl) hd ?_
  exact G_ct (zup_M (e1 := layM K tx x td dr bg ss pa kn im kp ns nd ap la hh tt) rfl (fun k hk => match k, hk with
    | 0, h => absurd rfl h
    | 1, _ => rfl
    | 2, _ => rfl
    | 3, _ => rfl
    | 4, _ => rfl
    | 5, _ => rfl
    | 6, _ => rfl
    | 7, _ => rfl
    | 8, _ => rfl
    | 9, _ => rfl
    | _ + 10, _ => rfl)) k
theorem m_get_td {K : zK} {X : zX} {cc : ByteArray} {own : String} {ret : Option FieldType} {nL f pc : Nat} {lo : List (Nat × Value)} {st : List Value} {idx : Nat} {tx : Int → Int} {ty : Int} {td : Int → Int} {dr : Int → Int} {bg : Int → Int} {ss : Int → Int} {pa : Int → Int} {kn : Int} {im : Int → Int} {kp : Int} {ns : Int → Int} {nd : Int} {ap : Int} {la : Int} {hh : Int → Int} {tt : Int → Int} (O : zO K X cc own ret nL f) (hM : kN K = 11) (hw : Cond.fieldLink own idx RX6 (TX6 2).2.1 (TX6 2).2.2.1 ∈ zTB) (hd : decode cc pc = .ok (.getfield idx, 3)) (k : G K X nL (pc + 3) lo (.ref (kad K 2) :: st) (layM K tx ty td dr bg ss pa kn im kp ns nd ap la hh tt)) : G K X nL pc lo (.ref (kad K 0) :: st) (layM K tx ty td dr bg ss pa kn im kp ns nd ap la hh tt) :=
  r_get O (by rw [hM]; decide) (show layM K tx ty td dr bg ss pa kn im kp ns nd ap la hh tt 0 = .inr (6, [.ref (kad K 1), .int (iI ty), .ref (kad K 2), .ref (kad K 3), .ref (kad K 4), .ref (kad K 5), .ref (kad K 6), .int (iI kn), .ref (kad K 7), .int (iI kp), .ref (kad K 8), .int (iI nd), .int (iI ap), .int (iI la), .ref (kad K 9), .ref (kad K 10)]) from rfl) zCl6 hw (by decide) rfl hd k
theorem m_ld_td {K : zK} {X : zX} {cc : ByteArray} {own : String} {ret : Option FieldType} {nL f pc : Nat} {lo : List (Nat × Value)} {st : List Value} {z : Int} {tx : Int → Int} {ty : Int} {td : Int → Int} {dr : Int → Int} {bg : Int → Int} {ss : Int → Int} {pa : Int → Int} {kn : Int} {im : Int → Int} {kp : Int} {ns : Int → Int} {nd : Int} {ap : Int} {la : Int} {hh : Int → Int} {tt : Int → Int} (O : zO K X cc own ret nL f) (hM : kN K = 11) (h0 : 0 ≤ z) (h1 : z < 10) (hd : decode cc pc = .ok (.iaload, 1)) (k : G K X nL (pc + 1) lo (.int (iI (td z)) :: st) (layM K tx ty td dr bg ss pa kn im kp ns nd ap la hh tt)) : G K X nL pc lo (.int (iI z) :: .ref (kad K 2) :: st) (layM K tx ty td dr bg ss pa kn im kp ns nd ap la hh tt) :=
  r_iald O (by rw [hM]; decide) (show layM K tx ty td dr bg ss pa kn im kp ns nd ap la hh tt 2 = .inl (kI K, 10, .inl (aI td)) from rfl) h0 h1 (by decide) hd k
theorem m_st_td {K : zK} {X : zX} {cc : ByteArray} {own : String} {ret : Option FieldType} {nL f pc : Nat} {lo : List (Nat × Value)} {st : List Value} {z x : Int} {tx : Int → Int} {ty : Int} {td : Int → Int} {dr : Int → Int} {bg : Int → Int} {ss : Int → Int} {pa : Int → Int} {kn : Int} {im : Int → Int} {kp : Int} {ns : Int → Int} {nd : Int} {ap : Int} {la : Int} {hh : Int → Int} {tt : Int → Int} (O : zO K X cc own ret nL f) (hM : kN K = 11) (h0 : 0 ≤ z) (h1 : z < 10) (hd : decode cc pc = .ok (.iastore, 1)) (k : G K X nL (pc + 1) lo st (layM K tx ty (uI td z x) dr bg ss pa kn im kp ns nd ap la hh tt)) : G K X nL pc lo (.int (iI x) :: .int (iI z) :: .ref (kad K 2) :: st) (layM K tx ty td dr bg ss pa kn im kp ns nd ap la hh tt) := by
  refine r_iast O (by rw [hM]; decide) (show layM K tx ty td dr bg ss pa kn im kp ns nd ap la hh tt 2 = .inl (kI K, 10, .inl (aI td)) from rfl) h0 h1 (by decide) hd ?_
  exact G_ct (zup_M (e1 := layM K tx ty (uI td z x) dr bg ss pa kn im kp ns nd ap la hh tt) rfl (fun k hk => match k, hk with
    | 0, _ => rfl
    | 1, _ => rfl
    | 2, h => absurd rfl h
    | 3, _ => rfl
    | 4, _ => rfl
    | 5, _ => rfl
    | 6, _ => rfl
    | 7, _ => rfl
    | 8, _ => rfl
    | 9, _ => rfl
    | _ + 10, _ => rfl)) k
theorem m_get_dr {K : zK} {X : zX} {cc : ByteArray} {own : String} {ret : Option FieldType} {nL f pc : Nat} {lo : List (Nat × Value)} {st : List Value} {idx : Nat} {tx : Int → Int} {ty : Int} {td : Int → Int} {dr : Int → Int} {bg : Int → Int} {ss : Int → Int} {pa : Int → Int} {kn : Int} {im : Int → Int} {kp : Int} {ns : Int → Int} {nd : Int} {ap : Int} {la : Int} {hh : Int → Int} {tt : Int → Int} (O : zO K X cc own ret nL f) (hM : kN K = 11) (hw : Cond.fieldLink own idx RX6 (TX6 3).2.1 (TX6 3).2.2.1 ∈ zTB) (hd : decode cc pc = .ok (.getfield idx, 3)) (k : G K X nL (pc + 3) lo (.ref (kad K 3) :: st) (layM K tx ty td dr bg ss pa kn im kp ns nd ap la hh tt)) : G K X nL pc lo (.ref (kad K 0) :: st) (layM K tx ty td dr bg ss pa kn im kp ns nd ap la hh tt) :=
  r_get O (by rw [hM]; decide) (show layM K tx ty td dr bg ss pa kn im kp ns nd ap la hh tt 0 = .inr (6, [.ref (kad K 1), .int (iI ty), .ref (kad K 2), .ref (kad K 3), .ref (kad K 4), .ref (kad K 5), .ref (kad K 6), .int (iI kn), .ref (kad K 7), .int (iI kp), .ref (kad K 8), .int (iI nd), .int (iI ap), .int (iI la), .ref (kad K 9), .ref (kad K 10)]) from rfl) zCl6 hw (by decide) rfl hd k
theorem m_ld_dr {K : zK} {X : zX} {cc : ByteArray} {own : String} {ret : Option FieldType} {nL f pc : Nat} {lo : List (Nat × Value)} {st : List Value} {z : Int} {tx : Int → Int} {ty : Int} {td : Int → Int} {dr : Int → Int} {bg : Int → Int} {ss : Int → Int} {pa : Int → Int} {kn : Int} {im : Int → Int} {kp : Int} {ns : Int → Int} {nd : Int} {ap : Int} {la : Int} {hh : Int → Int} {tt : Int → Int} (O : zO K X cc own ret nL f) (hM : kN K = 11) (h0 : 0 ≤ z) (h1 : z < 10) (hd : decode cc pc = .ok (.iaload, 1)) (k : G K X nL (pc + 1) lo (.int (iI (dr z)) :: st) (layM K tx ty td dr bg ss pa kn im kp ns nd ap la hh tt)) : G K X nL pc lo (.int (iI z) :: .ref (kad K 3) :: st) (layM K tx ty td dr bg ss pa kn im kp ns nd ap la hh tt) :=
  r_iald O (by rw [hM]; decide) (show layM K tx ty td dr bg ss pa kn im kp ns nd ap la hh tt 3 = .inl (kI K, 10, .inl (aI dr)) from rfl) h0 h1 (by decide) hd k
theorem m_st_dr {K : zK} {X : zX} {cc : ByteArray} {own : String} {ret : Option FieldType} {nL f pc : Nat} {lo : List (Nat × Value)} {st : List Value} {z x : Int} {tx : Int → Int} {ty : Int} {td : Int → Int} {dr : Int → Int} {bg : Int → Int} {ss : Int → Int} {pa : Int → Int} {kn : Int} {im : Int → Int} {kp : Int} {ns : Int → Int} {nd : Int} {ap : Int} {la : Int} {hh : Int → Int} {tt : Int → Int} (O : zO K X cc own ret nL f) (hM : kN K = 11) (h0 : 0 ≤ z) (h1 : z < 10) (hd : decode cc pc = .ok (.iastore, 1)) (k : G K X nL (pc + 1) lo st (layM K tx ty td (uI dr z x) bg ss pa kn im kp ns nd ap la hh tt)) : G K X nL pc lo (.int (iI x) :: .int (iI z) :: .ref (kad K 3) :: st) (layM K tx ty td dr bg ss pa kn im kp ns nd ap la hh tt) := by
  refine r_iast O (by rw [hM]; decide) (show layM K tx ty td dr bg ss pa kn im kp ns nd ap la hh tt 3 = .inl (kI K, 10, .inl (aI dr)) from rfl) h0 h1 (by decide) hd ?_
  exact G_ct (zup_M (e1 := layM K tx ty td (uI dr z x) bg ss pa kn im kp ns nd ap la hh tt) rfl (fun k hk => match k, hk with
    | 0, _ => rfl
    | 1, _ => rfl
    | 2, _ => rfl
    | 3, h => absurd rfl h
    | 4, _ => rfl
    | 5, _ => rfl
    | 6, _ => rfl
    | 7, _ => rfl
    | 8, _ => rfl
    | 9, _ => rfl
    | _ + 10, _ => rfl)) k
theorem m_get_bg {K : zK} {X : zX} {cc : ByteArray} {own : String} {ret : Option FieldType} {nL f pc : Nat} {lo : List (Nat × Value)} {st : List Value} {idx : Nat} {tx : Int → Int} {ty : Int} {td : Int → Int} {dr : Int → Int} {bg : Int → Int} {ss : Int → Int} {pa : Int → Int} {kn : Int} {im : Int → Int} {kp : Int} {ns : Int → Int} {nd : Int} {ap : Int} {la : Int} {hh : Int → Int} {tt : Int → Int} (O : zO K X cc own ret nL f) (hM : kN K = 11) (hw : Cond.fieldLink own idx RX6 (TX6 4).2.1 (TX6 4).2.2.1 ∈ zTB) (hd : decode cc pc = .ok (.getfield idx, 3)) (k : G K X nL (pc + 3) lo (.ref (kad K 4) :: st) (layM K tx ty td dr bg ss pa kn im kp ns nd ap la hh tt)) : G K X nL pc lo (.ref (kad K 0) :: st) (layM K tx ty td dr bg ss pa kn im kp ns nd ap la hh tt) :=
  r_get O (by rw [hM]; decide) (show layM K tx ty td dr bg ss pa kn im kp ns nd ap la hh tt 0 = .inr (6, [.ref (kad K 1), .int (iI ty), .ref (kad K 2), .ref (kad K 3), .ref (kad K 4), .ref (kad K 5), .ref (kad K 6), .int (iI kn), .ref (kad K 7), .int (iI kp), .ref (kad K 8), .int (iI nd), .int (iI ap), .int (iI la), .ref (kad K 9), .ref (kad K 10)]) from rfl) zCl6 hw (by decide) rfl hd k
theorem m_ld_bg {K : zK} {X : zX} {cc : ByteArray} {own : String} {ret : Option FieldType} {nL f pc : Nat} {lo : List (Nat × Value)} {st : List Value} {z : Int} {tx : Int → Int} {ty : Int} {td : Int → Int} {dr : Int → Int} {bg : Int → Int} {ss : Int → Int} {pa : Int → Int} {kn : Int} {im : Int → Int} {kp : Int} {ns : Int → Int} {nd : Int} {ap : Int} {la : Int} {hh : Int → Int} {tt : Int → Int} (O : zO K X cc own ret nL f) (hM : kN K = 11) (h0 : 0 ≤ z) (h1 : z < 31) (hd : decode cc pc = .ok (.iaload, 1)) (k : G K X nL (pc + 1) lo (.int (iI (bg z)) :: st) (layM K tx ty td dr bg ss pa kn im kp ns nd ap la hh tt)) : G K X nL pc lo (.int (iI z) :: .ref (kad K 4) :: st) (layM K tx ty td dr bg ss pa kn im kp ns nd ap la hh tt) :=
  r_iald O (by rw [hM]; decide) (show layM K tx ty td dr bg ss pa kn im kp ns nd ap la hh tt 4 = .inl (kI K, 31, .inl (aI bg)) from rfl) h0 h1 (by decide) hd k
theorem m_st_bg {K : zK} {X : zX} {cc : ByteArray} {own : String} {ret : Option FieldType} {nL f pc : Nat} {lo : List (Nat × Value)} {st : List Value} {z x : Int} {tx : Int → Int} {ty : Int} {td : Int → Int} {dr : Int → Int} {bg : Int → Int} {ss : Int → Int} {pa : Int → Int} {kn : Int} {im : Int → Int} {kp : Int} {ns : Int → Int} {nd : Int} {ap : Int} {la : Int} {hh : Int → Int} {tt : Int → Int} (O : zO K X cc own ret nL f) (hM : kN K = 11) (h0 : 0 ≤ z) (h1 : z < 31) (hd : decode cc pc = .ok (.iastore, 1)) (k : G K X nL (pc + 1) lo st (layM K tx ty td dr (uI bg z x) ss pa kn im kp ns nd ap la hh tt)) : G K X nL pc lo (.int (iI x) :: .int (iI z) :: .ref (kad K 4) :: st) (layM K tx ty td dr bg ss pa kn im kp ns nd ap la hh tt) := by
  refine r_iast O (by rw [hM]; decide) (show layM K tx ty td dr bg ss pa kn im kp ns nd ap la hh tt 4 = .inl (kI K, 31, .inl (aI bg)) from rfl) h0 h1 (by decide) hd ?_
  exact G_ct (zup_M (e1 := layM K tx ty td dr (uI bg z x) ss pa kn im kp ns nd ap la hh tt) rfl (fun k hk => match k, hk with
    | 0, _ => rfl
    | 1, _ => rfl
    | 2, _ => rfl
    | 3, _ => rfl
    | 4, h => absurd rfl h
    | 5, _ => rfl
    | 6, _ => rfl
    | 7, _ => rfl
    | 8, _ => rfl
    | 9, _ => rfl
    | _ + 10, _ => rfl)) k
theorem m_get_ss {K : zK} {X : zX} {cc : ByteArray} {own : String} {ret : Option FieldType} {nL f pc : Nat} {lo : List (Nat × Value)} {st : List Value} {idx : Nat} {tx : Int → Int} {ty : Int} {td : Int → Int} {dr : Int → Int} {bg : Int → Int} {ss : Int → Int} {pa : Int → Int} {kn : Int} {im : Int → Int} {kp : Int} {ns : Int → Int} {nd : Int} {ap : Int} {la : Int} {hh : Int → Int} {tt : Int → Int} (O : zO K X cc own ret nL f) (hM : kN K = 11) (hw : Cond.fieldLink own idx RX6 (TX6 5).2.1 (TX6 5).2.2.1 ∈ zTB) (hd : decode cc pc = .ok (.getfield idx, 3)) (k : G K X nL (pc + 3) lo (.ref (kad K 5) :: st) (layM K tx ty td dr bg ss pa kn im kp ns nd ap la hh tt)) : G K X nL pc lo (.ref (kad K 0) :: st) (layM K tx ty td dr bg ss pa kn im kp ns nd ap la hh tt) :=
  r_get O (by rw [hM]; decide) (show layM K tx ty td dr bg ss pa kn im kp ns nd ap la hh tt 0 = .inr (6, [.ref (kad K 1), .int (iI ty), .ref (kad K 2), .ref (kad K 3), .ref (kad K 4), .ref (kad K 5), .ref (kad K 6), .int (iI kn), .ref (kad K 7), .int (iI kp), .ref (kad K 8), .int (iI nd), .int (iI ap), .int (iI la), .ref (kad K 9), .ref (kad K 10)]) from rfl) zCl6 hw (by decide) rfl hd k
theorem m_ld_ss {K : zK} {X : zX} {cc : ByteArray} {own : String} {ret : Option FieldType} {nL f pc : Nat} {lo : List (Nat × Value)} {st : List Value} {z : Int} {tx : Int → Int} {ty : Int} {td : Int → Int} {dr : Int → Int} {bg : Int → Int} {ss : Int → Int} {pa : Int → Int} {kn : Int} {im : Int → Int} {kp : Int} {ns : Int → Int} {nd : Int} {ap : Int} {la : Int} {hh : Int → Int} {tt : Int → Int} (O : zO K X cc own ret nL f) (hM : kN K = 11) (h0 : 0 ≤ z) (h1 : z < 31) (hd : decode cc pc = .ok (.iaload, 1)) (k : G K X nL (pc + 1) lo (.int (iI (ss z)) :: st) (layM K tx ty td dr bg ss pa kn im kp ns nd ap la hh tt)) : G K X nL pc lo (.int (iI z) :: .ref (kad K 5) :: st) (layM K tx ty td dr bg ss pa kn im kp ns nd ap la hh tt) :=
  r_iald O (by rw [hM]; decide) (show layM K tx ty td dr bg ss pa kn im kp ns nd ap la hh tt 5 = .inl (kI K, 31, .inl (aI ss)) from rfl) h0 h1 (by decide) hd k
theorem m_st_ss {K : zK} {X : zX} {cc : ByteArray} {own : String} {ret : Option FieldType} {nL f pc : Nat} {lo : List (Nat × Value)} {st : List Value} {z x : Int} {tx : Int → Int} {ty : Int} {td : Int → Int} {dr : Int → Int} {bg : Int → Int} {ss : Int → Int} {pa : Int → Int} {kn : Int} {im : Int → Int} {kp : Int} {ns : Int → Int} {nd : Int} {ap : Int} {la : Int} {hh : Int → Int} {tt : Int → Int} (O : zO K X cc own ret nL f) (hM : kN K = 11) (h0 : 0 ≤ z) (h1 : z < 31) (hd : decode cc pc = .ok (.iastore, 1)) (k : G K X nL (pc + 1) lo st (layM K tx ty td dr bg (uI ss z x) pa kn im kp ns nd ap la hh tt)) : G K X nL pc lo (.int (iI x) :: .int (iI z) :: .ref (kad K 5) :: st) (layM K tx ty td dr bg ss pa kn im kp ns nd ap la hh tt) := by
  refine r_iast O (by rw [hM]; decide) (show layM K tx ty td dr bg ss pa kn im kp ns nd ap la hh tt 5 = .inl (kI K, 31, .inl (aI ss)) from rfl) h0 h1 (by decide) hd ?_
  exact G_ct (zup_M (e1 := layM K tx ty td dr bg (uI ss z x) pa kn im kp ns nd ap la hh tt) rfl (fun k hk => match k, hk with
    | 0, _ => rfl
    | 1, _ => rfl
    | 2, _ => rfl
    | 3, _ => rfl
    | 4, _ => rfl
    | 5, h => absurd rfl h
    | 6, _ => rfl
    | 7, _ => rfl
    | 8, _ => rfl
    | 9, _ => rfl
    | _ + 10, _ => rfl)) k
theorem m_get_pa {K : zK} {X : zX} {cc : ByteArray} {own : String} {ret : Option FieldType} {nL f pc : Nat} {lo : List (Nat × Value)} {st : List Value} {idx : Nat} {tx : Int → Int} {ty : Int} {td : Int → Int} {dr : Int → Int} {bg : Int → Int} {ss : Int → Int} {pa : Int → Int} {kn : Int} {im : Int → Int} {kp : Int} {ns : Int → Int} {nd : Int} {ap : Int} {la : Int} {hh : Int → Int} {tt : Int → Int} (O : zO K X cc own ret nL f) (hM : kN K = 11) (hw : Cond.fieldLink own idx RX6 (TX6 6).2.1 (TX6 6).2.2.1 ∈ zTB) (hd : decode cc pc = .ok (.getfield idx, 3)) (k : G K X nL (pc + 3) lo (.ref (kad K 6) :: st) (layM K tx ty td dr bg ss pa kn im kp ns nd ap la hh tt)) : G K X nL pc lo (.ref (kad K 0) :: st) (layM K tx ty td dr bg ss pa kn im kp ns nd ap la hh tt) :=
  r_get O (by rw [hM]; decide) (show layM K tx ty td dr bg ss pa kn im kp ns nd ap la hh tt 0 = .inr (6, [.ref (kad K 1), .int (iI ty), .ref (kad K 2), .ref (kad K 3), .ref (kad K 4), .ref (kad K 5), .ref (kad K 6), .int (iI kn), .ref (kad K 7), .int (iI kp), .ref (kad K 8), .int (iI nd), .int (iI ap), .int (iI la), .ref (kad K 9), .ref (kad K 10)]) from rfl) zCl6 hw (by decide) rfl hd k
theorem m_ld_pa {K : zK} {X : zX} {cc : ByteArray} {own : String} {ret : Option FieldType} {nL f pc : Nat} {lo : List (Nat × Value)} {st : List Value} {z : Int} {tx : Int → Int} {ty : Int} {td : Int → Int} {dr : Int → Int} {bg : Int → Int} {ss : Int → Int} {pa : Int → Int} {kn : Int} {im : Int → Int} {kp : Int} {ns : Int → Int} {nd : Int} {ap : Int} {la : Int} {hh : Int → Int} {tt : Int → Int} (O : zO K X cc own ret nL f) (hM : kN K = 11) (h0 : 0 ≤ z) (h1 : z < 248) (hd : decode cc pc = .ok (.iaload, 1)) (k : G K X nL (pc + 1) lo (.int (iI (pa z)) :: st) (layM K tx ty td dr bg ss pa kn im kp ns nd ap la hh tt)) : G K X nL pc lo (.int (iI z) :: .ref (kad K 6) :: st) (layM K tx ty td dr bg ss pa kn im kp ns nd ap la hh tt) :=
  r_iald O (by rw [hM]; decide) (show layM K tx ty td dr bg ss pa kn im kp ns nd ap la hh tt 6 = .inl (kI K, 248, .inl (aI pa)) from rfl) h0 h1 (by decide) hd k
theorem m_st_pa {K : zK} {X : zX} {cc : ByteArray} {own : String} {ret : Option FieldType} {nL f pc : Nat} {lo : List (Nat × Value)} {st : List Value} {z x : Int} {tx : Int → Int} {ty : Int} {td : Int → Int} {dr : Int → Int} {bg : Int → Int} {ss : Int → Int} {pa : Int → Int} {kn : Int} {im : Int → Int} {kp : Int} {ns : Int → Int} {nd : Int} {ap : Int} {la : Int} {hh : Int → Int} {tt : Int → Int} (O : zO K X cc own ret nL f) (hM : kN K = 11) (h0 : 0 ≤ z) (h1 : z < 248) (hd : decode cc pc = .ok (.iastore, 1)) (k : G K X nL (pc + 1) lo st (layM K tx ty td dr bg ss (uI pa z x) kn im kp ns nd ap la hh tt)) : G K X nL pc lo (.int (iI x) :: .int (iI z) :: .ref (kad K 6) :: st) (layM K tx ty td dr bg ss pa kn im kp ns nd ap la hh tt) := by
  refine r_iast O (by rw [hM]; decide) (show layM K tx ty td dr bg ss pa kn im kp ns nd ap la hh tt 6 = .inl (kI K, 248, .inl (aI pa)) from rfl) h0 h1 (by decide) hd ?_
  exact G_ct (zup_M (e1 := layM K tx ty td dr bg ss (uI pa z x) kn im kp ns nd ap la hh tt) rfl (fun k hk => match k, hk with
    | 0, _ => rfl
    | 1, _ => rfl
    | 2, _ => rfl
    | 3, _ => rfl
    | 4, _ => rfl
    | 5, _ => rfl
    | 6, h => absurd rfl h
    | 7, _ => rfl
    | 8, _ => rfl
    | 9, _ => rfl
    | _ + 10, _ => rfl)) k
theorem m_get_kn {K : zK} {X : zX} {cc : ByteArray} {own : String} {ret : Option FieldType} {nL f pc : Nat} {lo : List (Nat × Value)} {st : List Value} {idx : Nat} {tx : Int → Int} {ty : Int} {td : Int → Int} {dr : Int → Int} {bg : Int → Int} {ss : Int → Int} {pa : Int → Int} {kn : Int} {im : Int → Int} {kp : Int} {ns : Int → Int} {nd : Int} {ap : Int} {la : Int} {hh : Int → Int} {tt : Int → Int} (O : zO K X cc own ret nL f) (hM : kN K = 11) (hw : Cond.fieldLink own idx RX6 (TX6 7).2.1 (TX6 7).2.2.1 ∈ zTB) (hd : decode cc pc = .ok (.getfield idx, 3)) (k : G K X nL (pc + 3) lo (.int (iI kn) :: st) (layM K tx ty td dr bg ss pa kn im kp ns nd ap la hh tt)) : G K X nL pc lo (.ref (kad K 0) :: st) (layM K tx ty td dr bg ss pa kn im kp ns nd ap la hh tt) :=
  r_get O (by rw [hM]; decide) (show layM K tx ty td dr bg ss pa kn im kp ns nd ap la hh tt 0 = .inr (6, [.ref (kad K 1), .int (iI ty), .ref (kad K 2), .ref (kad K 3), .ref (kad K 4), .ref (kad K 5), .ref (kad K 6), .int (iI kn), .ref (kad K 7), .int (iI kp), .ref (kad K 8), .int (iI nd), .int (iI ap), .int (iI la), .ref (kad K 9), .ref (kad K 10)]) from rfl) zCl6 hw (by decide) rfl hd k
theorem m_put_kn {K : zK} {X : zX} {cc : ByteArray} {own : String} {ret : Option FieldType} {nL f pc : Nat} {lo : List (Nat × Value)} {st : List Value} {idx : Nat} {x : Int} {tx : Int → Int} {ty : Int} {td : Int → Int} {dr : Int → Int} {bg : Int → Int} {ss : Int → Int} {pa : Int → Int} {kn : Int} {im : Int → Int} {kp : Int} {ns : Int → Int} {nd : Int} {ap : Int} {la : Int} {hh : Int → Int} {tt : Int → Int} (O : zO K X cc own ret nL f) (hM : kN K = 11) (hw : Cond.fieldLink own idx RX6 (TX6 7).2.1 (TX6 7).2.2.1 ∈ zTB) (hd : decode cc pc = .ok (.putfield idx, 3)) (k : G K X nL (pc + 3) lo st (layM K tx ty td dr bg ss pa x im kp ns nd ap la hh tt)) : G K X nL pc lo (.int (iI x) :: .ref (kad K 0) :: st) (layM K tx ty td dr bg ss pa kn im kp ns nd ap la hh tt) := by
  refine r_put (ty := .int) O (by rw [hM]; decide) (show layM K tx ty td dr bg ss pa kn im kp ns nd ap la hh tt 0 = .inr (6, [.ref (kad K 1), .int (iI ty), .ref (kad K 2), .ref (kad K 3), .ref (kad K 4), .ref (kad K 5), .ref (kad K 6), .int (iI kn), .ref (kad K 7), .int (iI kp), .ref (kad K 8), .int (iI nd), .int (iI ap), .int (iI la), .ref (kad K 9), .ref (kad K 10)]) from rfl) zCl6 hw (by decide) rfl (by decide +kernel) rfl rfl (Nat.le_of_ble_eq_true rfl) hd ?_
  exact G_ct (zup_M (e1 := layM K tx ty td dr bg ss pa x im kp ns nd ap la hh tt) rfl (fun k hk => match k, hk with
    | 0, h => absurd rfl h
    | 1, _ => rfl
    | 2, _ => rfl
    | 3, _ => rfl
    | 4, _ => rfl
    | 5, _ => rfl
    | 6, _ => rfl
    | 7, _ => rfl
    | 8, _ => rfl
    | 9, _ => rfl
    | _ + 10, _ => rfl)) k
theorem m_get_im {K : zK} {X : zX} {cc : ByteArray} {own : String} {ret : Option FieldType} {nL f pc : Nat} {lo : List (Nat × Value)} {st : List Value} {idx : Nat} {tx : Int → Int} {ty : Int} {td : Int → Int} {dr : Int → Int} {bg : Int → Int} {ss : Int → Int} {pa : Int → Int} {kn : Int} {im : Int → Int} {kp : Int} {ns : Int → Int} {nd : Int} {ap : Int} {la : Int} {hh : Int → Int} {tt : Int → Int} (O : zO K X cc own ret nL f) (hM : kN K = 11) (hw : Cond.fieldLink own idx RX6 (TX6 8).2.1 (TX6 8).2.2.1 ∈ zTB) (hd : decode cc pc = .ok (.getfield idx, 3)) (k : G K X nL (pc + 3) lo (.ref (kad K 7) :: st) (layM K tx ty td dr bg ss pa kn im kp ns nd ap la hh tt)) : G K X nL pc lo (.ref (kad K 0) :: st) (layM K tx ty td dr bg ss pa kn im kp ns nd ap la hh tt) :=
  r_get O (by rw [hM]; decide) (show layM K tx ty td dr bg ss pa kn im kp ns nd ap la hh tt 0 = .inr (6, [.ref (kad K 1), .int (iI ty), .ref (kad K 2), .ref (kad K 3), .ref (kad K 4), .ref (kad K 5), .ref (kad K 6), .int (iI kn), .ref (kad K 7), .int (iI kp), .ref (kad K 8), .int (iI nd), .int (iI ap), .int (iI la), .ref (kad K 9), .ref (kad K 10)]) from rfl) zCl6 hw (by decide) rfl hd k
theorem m_ld_im {K : zK} {X : zX} {cc : ByteArray} {own : String} {ret : Option FieldType} {nL f pc : Nat} {lo : List (Nat × Value)} {st : List Value} {z : Int} {tx : Int → Int} {ty : Int} {td : Int → Int} {dr : Int → Int} {bg : Int → Int} {ss : Int → Int} {pa : Int → Int} {kn : Int} {im : Int → Int} {kp : Int} {ns : Int → Int} {nd : Int} {ap : Int} {la : Int} {hh : Int → Int} {tt : Int → Int} (O : zO K X cc own ret nL f) (hM : kN K = 11) (h0 : 0 ≤ z) (h1 : z < 62) (hd : decode cc pc = .ok (.iaload, 1)) (k : G K X nL (pc + 1) lo (.int (iI (im z)) :: st) (layM K tx ty td dr bg ss pa kn im kp ns nd ap la hh tt)) : G K X nL pc lo (.int (iI z) :: .ref (kad K 7) :: st) (layM K tx ty td dr bg ss pa kn im kp ns nd ap la hh tt) :=
  r_iald O (by rw [hM]; decide) (show layM K tx ty td dr bg ss pa kn im kp ns nd ap la hh tt 7 = .inl (kI K, 62, .inl (aI im)) from rfl) h0 h1 (by decide) hd k
theorem m_st_im {K : zK} {X : zX} {cc : ByteArray} {own : String} {ret : Option FieldType} {nL f pc : Nat} {lo : List (Nat × Value)} {st : List Value} {z x : Int} {tx : Int → Int} {ty : Int} {td : Int → Int} {dr : Int → Int} {bg : Int → Int} {ss : Int → Int} {pa : Int → Int} {kn : Int} {im : Int → Int} {kp : Int} {ns : Int → Int} {nd : Int} {ap : Int} {la : Int} {hh : Int → Int} {tt : Int → Int} (O : zO K X cc own ret nL f) (hM : kN K = 11) (h0 : 0 ≤ z) (h1 : z < 62) (hd : decode cc pc = .ok (.iastore, 1)) (k : G K X nL (pc + 1) lo st (layM K tx ty td dr bg ss pa kn (uI im z x) kp ns nd ap la hh tt)) : G K X nL pc lo (.int (iI x) :: .int (iI z) :: .ref (kad K 7) :: st) (layM K tx ty td dr bg ss pa kn im kp ns nd ap la hh tt) := by
  refine r_iast O (by rw [hM]; decide) (show layM K tx ty td dr bg ss pa kn im kp ns nd ap la hh tt 7 = .inl (kI K, 62, .inl (aI im)) from rfl) h0 h1 (by decide) hd ?_
  exact G_ct (zup_M (e1 := layM K tx ty td dr bg ss pa kn (uI im z x) kp ns nd ap la hh tt) rfl (fun k hk => match k, hk with
    | 0, _ => rfl
    | 1, _ => rfl
    | 2, _ => rfl
    | 3, _ => rfl
    | 4, _ => rfl
    | 5, _ => rfl
    | 6, _ => rfl
    | 7, h => absurd rfl h
    | 8, _ => rfl
    | 9, _ => rfl
    | _ + 10, _ => rfl)) k
theorem m_get_kp {K : zK} {X : zX} {cc : ByteArray} {own : String} {ret : Option FieldType} {nL f pc : Nat} {lo : List (Nat × Value)} {st : List Value} {idx : Nat} {tx : Int → Int} {ty : Int} {td : Int → Int} {dr : Int → Int} {bg : Int → Int} {ss : Int → Int} {pa : Int → Int} {kn : Int} {im : Int → Int} {kp : Int} {ns : Int → Int} {nd : Int} {ap : Int} {la : Int} {hh : Int → Int} {tt : Int → Int} (O : zO K X cc own ret nL f) (hM : kN K = 11) (hw : Cond.fieldLink own idx RX6 (TX6 9).2.1 (TX6 9).2.2.1 ∈ zTB) (hd : decode cc pc = .ok (.getfield idx, 3)) (k : G K X nL (pc + 3) lo (.int (iI kp) :: st) (layM K tx ty td dr bg ss pa kn im kp ns nd ap la hh tt)) : G K X nL pc lo (.ref (kad K 0) :: st) (layM K tx ty td dr bg ss pa kn im kp ns nd ap la hh tt) :=
  r_get O (by rw [hM]; decide) (show layM K tx ty td dr bg ss pa kn im kp ns nd ap la hh tt 0 = .inr (6, [.ref (kad K 1), .int (iI ty), .ref (kad K 2), .ref (kad K 3), .ref (kad K 4), .ref (kad K 5), .ref (kad K 6), .int (iI kn), .ref (kad K 7), .int (iI kp), .ref (kad K 8), .int (iI nd), .int (iI ap), .int (iI la), .ref (kad K 9), .ref (kad K 10)]) from rfl) zCl6 hw (by decide) rfl hd k
theorem m_put_kp {K : zK} {X : zX} {cc : ByteArray} {own : String} {ret : Option FieldType} {nL f pc : Nat} {lo : List (Nat × Value)} {st : List Value} {idx : Nat} {x : Int} {tx : Int → Int} {ty : Int} {td : Int → Int} {dr : Int → Int} {bg : Int → Int} {ss : Int → Int} {pa : Int → Int} {kn : Int} {im : Int → Int} {kp : Int} {ns : Int → Int} {nd : Int} {ap : Int} {la : Int} {hh : Int → Int} {tt : Int → Int} (O : zO K X cc own ret nL f) (hM : kN K = 11) (hw : Cond.fieldLink own idx RX6 (TX6 9).2.1 (TX6 9).2.2.1 ∈ zTB) (hd : decode cc pc = .ok (.putfield idx, 3)) (k : G K X nL (pc + 3) lo st (layM K tx ty td dr bg ss pa kn im x ns nd ap la hh tt)) : G K X nL pc lo (.int (iI x) :: .ref (kad K 0) :: st) (layM K tx ty td dr bg ss pa kn im kp ns nd ap la hh tt) := by
  refine r_put (ty := .int) O (by rw [hM]; decide) (show layM K tx ty td dr bg ss pa kn im kp ns nd ap la hh tt 0 = .inr (6, [.ref (kad K 1), .int (iI ty), .ref (kad K 2), .ref (kad K 3), .ref (kad K 4), .ref (kad K 5), .ref (kad K 6), .int (iI kn), .ref (kad K 7), .int (iI kp), .ref (kad K 8), .int (iI nd), .int (iI ap), .int (iI la), .ref (kad K 9), .ref (kad K 10)]) from rfl) zCl6 hw (by decide) rfl (by decide +kernel) rfl rfl (Nat.le_of_ble_eq_true rfl) hd ?_
  exact G_ct (zup_M (e1 := layM K tx ty td dr bg ss pa kn im x ns nd ap la hh tt) rfl (fun k hk => match k, hk with
    | 0, h => absurd rfl h
    | 1, _ => rfl
    | 2, _ => rfl
    | 3, _ => rfl
    | 4, _ => rfl
    | 5, _ => rfl
    | 6, _ => rfl
    | 7, _ => rfl
    | 8, _ => rfl
    | 9, _ => rfl
    | _ + 10, _ => rfl)) k
theorem m_get_ns {K : zK} {X : zX} {cc : ByteArray} {own : String} {ret : Option FieldType} {nL f pc : Nat} {lo : List (Nat × Value)} {st : List Value} {idx : Nat} {tx : Int → Int} {ty : Int} {td : Int → Int} {dr : Int → Int} {bg : Int → Int} {ss : Int → Int} {pa : Int → Int} {kn : Int} {im : Int → Int} {kp : Int} {ns : Int → Int} {nd : Int} {ap : Int} {la : Int} {hh : Int → Int} {tt : Int → Int} (O : zO K X cc own ret nL f) (hM : kN K = 11) (hw : Cond.fieldLink own idx RX6 (TX6 10).2.1 (TX6 10).2.2.1 ∈ zTB) (hd : decode cc pc = .ok (.getfield idx, 3)) (k : G K X nL (pc + 3) lo (.ref (kad K 8) :: st) (layM K tx ty td dr bg ss pa kn im kp ns nd ap la hh tt)) : G K X nL pc lo (.ref (kad K 0) :: st) (layM K tx ty td dr bg ss pa kn im kp ns nd ap la hh tt) :=
  r_get O (by rw [hM]; decide) (show layM K tx ty td dr bg ss pa kn im kp ns nd ap la hh tt 0 = .inr (6, [.ref (kad K 1), .int (iI ty), .ref (kad K 2), .ref (kad K 3), .ref (kad K 4), .ref (kad K 5), .ref (kad K 6), .int (iI kn), .ref (kad K 7), .int (iI kp), .ref (kad K 8), .int (iI nd), .int (iI ap), .int (iI la), .ref (kad K 9), .ref (kad K 10)]) from rfl) zCl6 hw (by decide) rfl hd k
theorem m_ld_ns {K : zK} {X : zX} {cc : ByteArray} {own : String} {ret : Option FieldType} {nL f pc : Nat} {lo : List (Nat × Value)} {st : List Value} {z : Int} {tx : Int → Int} {ty : Int} {td : Int → Int} {dr : Int → Int} {bg : Int → Int} {ss : Int → Int} {pa : Int → Int} {kn : Int} {im : Int → Int} {kp : Int} {ns : Int → Int} {nd : Int} {ap : Int} {la : Int} {hh : Int → Int} {tt : Int → Int} (O : zO K X cc own ret nL f) (hM : kN K = 11) (h0 : 0 ≤ z) (h1 : z < 6) (hd : decode cc pc = .ok (.iaload, 1)) (k : G K X nL (pc + 1) lo (.int (iI (ns z)) :: st) (layM K tx ty td dr bg ss pa kn im kp ns nd ap la hh tt)) : G K X nL pc lo (.int (iI z) :: .ref (kad K 8) :: st) (layM K tx ty td dr bg ss pa kn im kp ns nd ap la hh tt) :=
  r_iald O (by rw [hM]; decide) (show layM K tx ty td dr bg ss pa kn im kp ns nd ap la hh tt 8 = .inl (kI K, 6, .inl (aI ns)) from rfl) h0 h1 (by decide) hd k
theorem m_st_ns {K : zK} {X : zX} {cc : ByteArray} {own : String} {ret : Option FieldType} {nL f pc : Nat} {lo : List (Nat × Value)} {st : List Value} {z x : Int} {tx : Int → Int} {ty : Int} {td : Int → Int} {dr : Int → Int} {bg : Int → Int} {ss : Int → Int} {pa : Int → Int} {kn : Int} {im : Int → Int} {kp : Int} {ns : Int → Int} {nd : Int} {ap : Int} {la : Int} {hh : Int → Int} {tt : Int → Int} (O : zO K X cc own ret nL f) (hM : kN K = 11) (h0 : 0 ≤ z) (h1 : z < 6) (hd : decode cc pc = .ok (.iastore, 1)) (k : G K X nL (pc + 1) lo st (layM K tx ty td dr bg ss pa kn im kp (uI ns z x) nd ap la hh tt)) : G K X nL pc lo (.int (iI x) :: .int (iI z) :: .ref (kad K 8) :: st) (layM K tx ty td dr bg ss pa kn im kp ns nd ap la hh tt) := by
  refine r_iast O (by rw [hM]; decide) (show layM K tx ty td dr bg ss pa kn im kp ns nd ap la hh tt 8 = .inl (kI K, 6, .inl (aI ns)) from rfl) h0 h1 (by decide) hd ?_
  exact G_ct (zup_M (e1 := layM K tx ty td dr bg ss pa kn im kp (uI ns z x) nd ap la hh tt) rfl (fun k hk => match k, hk with
    | 0, _ => rfl
    | 1, _ => rfl
    | 2, _ => rfl
    | 3, _ => rfl
    | 4, _ => rfl
    | 5, _ => rfl
    | 6, _ => rfl
    | 7, _ => rfl
    | 8, h => absurd rfl h
    | 9, _ => rfl
    | _ + 10, _ => rfl)) k
theorem m_get_nd {K : zK} {X : zX} {cc : ByteArray} {own : String} {ret : Option FieldType} {nL f pc : Nat} {lo : List (Nat × Value)} {st : List Value} {idx : Nat} {tx : Int → Int} {ty : Int} {td : Int → Int} {dr : Int → Int} {bg : Int → Int} {ss : Int → Int} {pa : Int → Int} {kn : Int} {im : Int → Int} {kp : Int} {ns : Int → Int} {nd : Int} {ap : Int} {la : Int} {hh : Int → Int} {tt : Int → Int} (O : zO K X cc own ret nL f) (hM : kN K = 11) (hw : Cond.fieldLink own idx RX6 (TX6 11).2.1 (TX6 11).2.2.1 ∈ zTB) (hd : decode cc pc = .ok (.getfield idx, 3)) (k : G K X nL (pc + 3) lo (.int (iI nd) :: st) (layM K tx ty td dr bg ss pa kn im kp ns nd ap la hh tt)) : G K X nL pc lo (.ref (kad K 0) :: st) (layM K tx ty td dr bg ss pa kn im kp ns nd ap la hh tt) :=
  r_get O (by rw [hM]; decide) (show layM K tx ty td dr bg ss pa kn im kp ns nd ap la hh tt 0 = .inr (6, [.ref (kad K 1), .int (iI ty), .ref (kad K 2), .ref (kad K 3), .ref (kad K 4), .ref (kad K 5), .ref (kad K 6), .int (iI kn), .ref (kad K 7), .int (iI kp), .ref (kad K 8), .int (iI nd), .int (iI ap), .int (iI la), .ref (kad K 9), .ref (kad K 10)]) from rfl) zCl6 hw (by decide) rfl hd k
theorem m_put_nd {K : zK} {X : zX} {cc : ByteArray} {own : String} {ret : Option FieldType} {nL f pc : Nat} {lo : List (Nat × Value)} {st : List Value} {idx : Nat} {x : Int} {tx : Int → Int} {ty : Int} {td : Int → Int} {dr : Int → Int} {bg : Int → Int} {ss : Int → Int} {pa : Int → Int} {kn : Int} {im : Int → Int} {kp : Int} {ns : Int → Int} {nd : Int} {ap : Int} {la : Int} {hh : Int → Int} {tt : Int → Int} (O : zO K X cc own ret nL f) (hM : kN K = 11) (hw : Cond.fieldLink own idx RX6 (TX6 11).2.1 (TX6 11).2.2.1 ∈ zTB) (hd : decode cc pc = .ok (.putfield idx, 3)) (k : G K X nL (pc + 3) lo st (layM K tx ty td dr bg ss pa kn im kp ns x ap la hh tt)) : G K X nL pc lo (.int (iI x) :: .ref (kad K 0) :: st) (layM K tx ty td dr bg ss pa kn im kp ns nd ap la hh tt) := by
  refine r_put (ty := .int) O (by rw [hM]; decide) (show layM K tx ty td dr bg ss pa kn im kp ns nd ap la hh tt 0 = .inr (6, [.ref (kad K 1), .int (iI ty), .ref (kad K 2), .ref (kad K 3), .ref (kad K 4), .ref (kad K 5), .ref (kad K 6), .int (iI kn), .ref (kad K 7), .int (iI kp), .ref (kad K 8), .int (iI nd), .int (iI ap), .int (iI la), .ref (kad K 9), .ref (kad K 10)]) from rfl) zCl6 hw (by decide) rfl (by decide +kernel) rfl rfl (Nat.le_of_ble_eq_true rfl) hd ?_
  exact G_ct (zup_M (e1 := layM K tx ty td dr bg ss pa kn im kp ns x ap la hh tt) rfl (fun k hk => match k, hk with
    | 0, h => absurd rfl h
    | 1, _ => rfl
    | 2, _ => rfl
    | 3, _ => rfl
    | 4, _ => rfl
    | 5, _ => rfl
    | 6, _ => rfl
    | 7, _ => rfl
    | 8, _ => rfl
    | 9, _ => rfl
    | _ + 10, _ => rfl)) k
theorem m_get_ap {K : zK} {X : zX} {cc : ByteArray} {own : String} {ret : Option FieldType} {nL f pc : Nat} {lo : List (Nat × Value)} {st : List Value} {idx : Nat} {tx : Int → Int} {ty : Int} {td : Int → Int} {dr : Int → Int} {bg : Int → Int} {ss : Int → Int} {pa : Int → Int} {kn : Int} {im : Int → Int} {kp : Int} {ns : Int → Int} {nd : Int} {ap : Int} {la : Int} {hh : Int → Int} {tt : Int → Int} (O : zO K X cc own ret nL f) (hM : kN K = 11) (hw : Cond.fieldLink own idx RX6 (TX6 12).2.1 (TX6 12).2.2.1 ∈ zTB) (hd : decode cc pc = .ok (.getfield idx, 3)) (k : G K X nL (pc + 3) lo (.int (iI ap) :: st) (layM K tx ty td dr bg ss pa kn im kp ns nd ap la hh tt)) : G K X nL pc lo (.ref (kad K 0) :: st) (layM K tx ty td dr bg ss pa kn im kp ns nd ap la hh tt) :=
  r_get O (by rw [hM]; decide) (show layM K tx ty td dr bg ss pa kn im kp ns nd ap la hh tt 0 = .inr (6, [.ref (kad K 1), .int (iI ty), .ref (kad K 2), .ref (kad K 3), .ref (kad K 4), .ref (kad K 5), .ref (kad K 6), .int (iI kn), .ref (kad K 7), .int (iI kp), .ref (kad K 8), .int (iI nd), .int (iI ap), .int (iI la), .ref (kad K 9), .ref (kad K 10)]) from rfl) zCl6 hw (by decide) rfl hd k
theorem m_put_ap {K : zK} {X : zX} {cc : ByteArray} {own : String} {ret : Option FieldType} {nL f pc : Nat} {lo : List (Nat × Value)} {st : List Value} {idx : Nat} {x : Int} {tx : Int → Int} {ty : Int} {td : Int → Int} {dr : Int → Int} {bg : Int → Int} {ss : Int → Int} {pa : Int → Int} {kn : Int} {im : Int → Int} {kp : Int} {ns : Int → Int} {nd : Int} {ap : Int} {la : Int} {hh : Int → Int} {tt : Int → Int} (O : zO K X cc own ret nL f) (hM : kN K = 11) (hw : Cond.fieldLink own idx RX6 (TX6 12).2.1 (TX6 12).2.2.1 ∈ zTB) (hd : decode cc pc = .ok (.putfield idx, 3)) (k : G K X nL (pc + 3) lo st (layM K tx ty td dr bg ss pa kn im kp ns nd x la hh tt)) : G K X nL pc lo (.int (iI x) :: .ref (kad K 0) :: st) (layM K tx ty td dr bg ss pa kn im kp ns nd ap la hh tt) := by
  refine r_put (ty := .int) O (by rw [hM]; decide) (show layM K tx ty td dr bg ss pa kn im kp ns nd ap la hh tt 0 = .inr (6, [.ref (kad K 1), .int (iI ty), .ref (kad K 2), .ref (kad K 3), .ref (kad K 4), .ref (kad K 5), .ref (kad K 6), .int (iI kn), .ref (kad K 7), .int (iI kp), .ref (kad K 8), .int (iI nd), .int (iI ap), .int (iI la), .ref (kad K 9), .ref (kad K 10)]) from rfl) zCl6 hw (by decide) rfl (by decide +kernel) rfl rfl (Nat.le_of_ble_eq_true rfl) hd ?_
  exact G_ct (zup_M (e1 := layM K tx ty td dr bg ss pa kn im kp ns nd x la hh tt) rfl (fun k hk => match k, hk with
    | 0, h => absurd rfl h
    | 1, _ => rfl
    | 2, _ => rfl
    | 3, _ => rfl
    | 4, _ => rfl
    | 5, _ => rfl
    | 6, _ => rfl
    | 7, _ => rfl
    | 8, _ => rfl
    | 9, _ => rfl
    | _ + 10, _ => rfl)) k
theorem m_get_la {K : zK} {X : zX} {cc : ByteArray} {own : String} {ret : Option FieldType} {nL f pc : Nat} {lo : List (Nat × Value)} {st : List Value} {idx : Nat} {tx : Int → Int} {ty : Int} {td : Int → Int} {dr : Int → Int} {bg : Int → Int} {ss : Int → Int} {pa : Int → Int} {kn : Int} {im : Int → Int} {kp : Int} {ns : Int → Int} {nd : Int} {ap : Int} {la : Int} {hh : Int → Int} {tt : Int → Int} (O : zO K X cc own ret nL f) (hM : kN K = 11) (hw : Cond.fieldLink own idx RX6 (TX6 13).2.1 (TX6 13).2.2.1 ∈ zTB) (hd : decode cc pc = .ok (.getfield idx, 3)) (k : G K X nL (pc + 3) lo (.int (iI la) :: st) (layM K tx ty td dr bg ss pa kn im kp ns nd ap la hh tt)) : G K X nL pc lo (.ref (kad K 0) :: st) (layM K tx ty td dr bg ss pa kn im kp ns nd ap la hh tt) :=
  r_get O (by rw [hM]; decide) (show layM K tx ty td dr bg ss pa kn im kp ns nd ap la hh tt 0 = .inr (6, [.ref (kad K 1), .int (iI ty), .ref (kad K 2), .ref (kad K 3), .ref (kad K 4), .ref (kad K 5), .ref (kad K 6), .int (iI kn), .ref (kad K 7), .int (iI kp), .ref (kad K 8), .int (iI nd), .int (iI ap), .int (iI la), .ref (kad K 9), .ref (kad K 10)]) from rfl) zCl6 hw (by decide) rfl hd k
theorem m_put_la {K : zK} {X : zX} {cc : ByteArray} {own : String} {ret : Option FieldType} {nL f pc : Nat} {lo : List (Nat × Value)} {st : List Value} {idx : Nat} {x : Int} {tx : Int → Int} {ty : Int} {td : Int → Int} {dr : Int → Int} {bg : Int → Int} {ss : Int → Int} {pa : Int → Int} {kn : Int} {im : Int → Int} {kp : Int} {ns : Int → Int} {nd : Int} {ap : Int} {la : Int} {hh : Int → Int} {tt : Int → Int} (O : zO K X cc own ret nL f) (hM : kN K = 11) (hw : Cond.fieldLink own idx RX6 (TX6 13).2.1 (TX6 13).2.2.1 ∈ zTB) (hd : decode cc pc = .ok (.putfield idx, 3)) (k : G K X nL (pc + 3) lo st (layM K tx ty td dr bg ss pa kn im kp ns nd ap x hh tt)) : G K X nL pc lo (.int (iI x) :: .ref (kad K 0) :: st) (layM K tx ty td dr bg ss pa kn im kp ns nd ap la hh tt) := by
  refine r_put (ty := .int) O (by rw [hM]; decide) (show layM K tx ty td dr bg ss pa kn im kp ns nd ap la hh tt 0 = .inr (6, [.ref (kad K 1), .int (iI ty), .ref (kad K 2), .ref (kad K 3), .ref (kad K 4), .ref (kad K 5), .ref (kad K 6), .int (iI kn), .ref (kad K 7), .int (iI kp), .ref (kad K 8), .int (iI nd), .int (iI ap), .int (iI la), .ref (kad K 9), .ref (kad K 10)]) from rfl) zCl6 hw (by decide) rfl (by decide +kernel) rfl rfl (Nat.le_of_ble_eq_true rfl) hd ?_
  exact G_ct (zup_M (e1 := layM K tx ty td dr bg ss pa kn im kp ns nd ap x hh tt) rfl (fun k hk => match k, hk with
    | 0, h => absurd rfl h
    | 1, _ => rfl
    | 2, _ => rfl
    | 3, _ => rfl
    | 4, _ => rfl
    | 5, _ => rfl
    | 6, _ => rfl
    | 7, _ => rfl
    | 8, _ => rfl
    | 9, _ => rfl
    | _ + 10, _ => rfl)) k
theorem m_get_hh {K : zK} {X : zX} {cc : ByteArray} {own : String} {ret : Option FieldType} {nL f pc : Nat} {lo : List (Nat × Value)} {st : List Value} {idx : Nat} {tx : Int → Int} {ty : Int} {td : Int → Int} {dr : Int → Int} {bg : Int → Int} {ss : Int → Int} {pa : Int → Int} {kn : Int} {im : Int → Int} {kp : Int} {ns : Int → Int} {nd : Int} {ap : Int} {la : Int} {hh : Int → Int} {tt : Int → Int} (O : zO K X cc own ret nL f) (hM : kN K = 11) (hw : Cond.fieldLink own idx RX6 (TX6 14).2.1 (TX6 14).2.2.1 ∈ zTB) (hd : decode cc pc = .ok (.getfield idx, 3)) (k : G K X nL (pc + 3) lo (.ref (kad K 9) :: st) (layM K tx ty td dr bg ss pa kn im kp ns nd ap la hh tt)) : G K X nL pc lo (.ref (kad K 0) :: st) (layM K tx ty td dr bg ss pa kn im kp ns nd ap la hh tt) :=
  r_get O (by rw [hM]; decide) (show layM K tx ty td dr bg ss pa kn im kp ns nd ap la hh tt 0 = .inr (6, [.ref (kad K 1), .int (iI ty), .ref (kad K 2), .ref (kad K 3), .ref (kad K 4), .ref (kad K 5), .ref (kad K 6), .int (iI kn), .ref (kad K 7), .int (iI kp), .ref (kad K 8), .int (iI nd), .int (iI ap), .int (iI la), .ref (kad K 9), .ref (kad K 10)]) from rfl) zCl6 hw (by decide) rfl hd k
theorem m_ld_hh {K : zK} {X : zX} {cc : ByteArray} {own : String} {ret : Option FieldType} {nL f pc : Nat} {lo : List (Nat × Value)} {st : List Value} {z : Int} {tx : Int → Int} {ty : Int} {td : Int → Int} {dr : Int → Int} {bg : Int → Int} {ss : Int → Int} {pa : Int → Int} {kn : Int} {im : Int → Int} {kp : Int} {ns : Int → Int} {nd : Int} {ap : Int} {la : Int} {hh : Int → Int} {tt : Int → Int} (O : zO K X cc own ret nL f) (hM : kN K = 11) (h0 : 0 ≤ z) (h1 : z < 31) (hd : decode cc pc = .ok (.iaload, 1)) (k : G K X nL (pc + 1) lo (.int (iI (hh z)) :: st) (layM K tx ty td dr bg ss pa kn im kp ns nd ap la hh tt)) : G K X nL pc lo (.int (iI z) :: .ref (kad K 9) :: st) (layM K tx ty td dr bg ss pa kn im kp ns nd ap la hh tt) :=
  r_iald O (by rw [hM]; decide) (show layM K tx ty td dr bg ss pa kn im kp ns nd ap la hh tt 9 = .inl (kI K, 31, .inl (aI hh)) from rfl) h0 h1 (by decide) hd k
theorem m_st_hh {K : zK} {X : zX} {cc : ByteArray} {own : String} {ret : Option FieldType} {nL f pc : Nat} {lo : List (Nat × Value)} {st : List Value} {z x : Int} {tx : Int → Int} {ty : Int} {td : Int → Int} {dr : Int → Int} {bg : Int → Int} {ss : Int → Int} {pa : Int → Int} {kn : Int} {im : Int → Int} {kp : Int} {ns : Int → Int} {nd : Int} {ap : Int} {la : Int} {hh : Int → Int} {tt : Int → Int} (O : zO K X cc own ret nL f) (hM : kN K = 11) (h0 : 0 ≤ z) (h1 : z < 31) (hd : decode cc pc = .ok (.iastore, 1)) (k : G K X nL (pc + 1) lo st (layM K tx ty td dr bg ss pa kn im kp ns nd ap la (uI hh z x) tt)) : G K X nL pc lo (.int (iI x) :: .int (iI z) :: .ref (kad K 9) :: st) (layM K tx ty td dr bg ss pa kn im kp ns nd ap la hh tt) := by
  refine r_iast O (by rw [hM]; decide) (show layM K tx ty td dr bg ss pa kn im kp ns nd ap la hh tt 9 = .inl (kI K, 31, .inl (aI hh)) from rfl) h0 h1 (by decide) hd ?_
  exact G_ct (zup_M (e1 := layM K tx ty td dr bg ss pa kn im kp ns nd ap la (uI hh z x) tt) rfl (fun k hk => match k, hk with
    | 0, _ => rfl
    | 1, _ => rfl
    | 2, _ => rfl
    | 3, _ => rfl
    | 4, _ => rfl
    | 5, _ => rfl
    | 6, _ => rfl
    | 7, _ => rfl
    | 8, _ => rfl
    | 9, h => absurd rfl h
    | _ + 10, _ => rfl)) k
theorem m_get_tt {K : zK} {X : zX} {cc : ByteArray} {own : String} {ret : Option FieldType} {nL f pc : Nat} {lo : List (Nat × Value)} {st : List Value} {idx : Nat} {tx : Int → Int} {ty : Int} {td : Int → Int} {dr : Int → Int} {bg : Int → Int} {ss : Int → Int} {pa : Int → Int} {kn : Int} {im : Int → Int} {kp : Int} {ns : Int → Int} {nd : Int} {ap : Int} {la : Int} {hh : Int → Int} {tt : Int → Int} (O : zO K X cc own ret nL f) (hM : kN K = 11) (hw : Cond.fieldLink own idx RX6 (TX6 15).2.1 (TX6 15).2.2.1 ∈ zTB) (hd : decode cc pc = .ok (.getfield idx, 3)) (k : G K X nL (pc + 3) lo (.ref (kad K 10) :: st) (layM K tx ty td dr bg ss pa kn im kp ns nd ap la hh tt)) : G K X nL pc lo (.ref (kad K 0) :: st) (layM K tx ty td dr bg ss pa kn im kp ns nd ap la hh tt) :=
  r_get O (by rw [hM]; decide) (show layM K tx ty td dr bg ss pa kn im kp ns nd ap la hh tt 0 = .inr (6, [.ref (kad K 1), .int (iI ty), .ref (kad K 2), .ref (kad K 3), .ref (kad K 4), .ref (kad K 5), .ref (kad K 6), .int (iI kn), .ref (kad K 7), .int (iI kp), .ref (kad K 8), .int (iI nd), .int (iI ap), .int (iI la), .ref (kad K 9), .ref (kad K 10)]) from rfl) zCl6 hw (by decide) rfl hd k
theorem m_ld_tt {K : zK} {X : zX} {cc : ByteArray} {own : String} {ret : Option FieldType} {nL f pc : Nat} {lo : List (Nat × Value)} {st : List Value} {z : Int} {tx : Int → Int} {ty : Int} {td : Int → Int} {dr : Int → Int} {bg : Int → Int} {ss : Int → Int} {pa : Int → Int} {kn : Int} {im : Int → Int} {kp : Int} {ns : Int → Int} {nd : Int} {ap : Int} {la : Int} {hh : Int → Int} {tt : Int → Int} (O : zO K X cc own ret nL f) (hM : kN K = 11) (h0 : 0 ≤ z) (h1 : z < 31) (hd : decode cc pc = .ok (.iaload, 1)) (k : G K X nL (pc + 1) lo (.int (iI (tt z)) :: st) (layM K tx ty td dr bg ss pa kn im kp ns nd ap la hh tt)) : G K X nL pc lo (.int (iI z) :: .ref (kad K 10) :: st) (layM K tx ty td dr bg ss pa kn im kp ns nd ap la hh tt) :=
  r_iald O (by rw [hM]; decide) (show layM K tx ty td dr bg ss pa kn im kp ns nd ap la hh tt 10 = .inl (kI K, 31, .inl (aI tt)) from rfl) h0 h1 (by decide) hd k
theorem m_st_tt {K : zK} {X : zX} {cc : ByteArray} {own : String} {ret : Option FieldType} {nL f pc : Nat} {lo : List (Nat × Value)} {st : List Value} {z x : Int} {tx : Int → Int} {ty : Int} {td : Int → Int} {dr : Int → Int} {bg : Int → Int} {ss : Int → Int} {pa : Int → Int} {kn : Int} {im : Int → Int} {kp : Int} {ns : Int → Int} {nd : Int} {ap : Int} {la : Int} {hh : Int → Int} {tt : Int → Int} (O : zO K X cc own ret nL f) (hM : kN K = 11) (hI : zInj K) (h0 : 0 ≤ z) (h1 : z < 31) (hd : decode cc pc = .ok (.iastore, 1)) (k : G K X nL (pc + 1) lo st (layM K tx ty td dr bg ss pa kn im kp ns nd ap la hh (uI tt z x))) : G K X nL pc lo (.int (iI x) :: .int (iI z) :: .ref (kad K 10) :: st) (layM K tx ty td dr bg ss pa kn im kp ns nd ap la hh tt) := by
  refine r_iast O (by rw [hM]; decide) (show layM K tx ty td dr bg ss pa kn im kp ns nd ap la hh tt 10 = .inl (kI K, 31, .inl (aI tt)) from rfl) h0 h1 (by decide) hd ?_
  refine G_eqN (fun q hq => ?_) k
  rw [hM] at hq
  unfold zup
  by_cases e : q = 10
  · rw [if_pos e, e]; rfl
  · rw [if_neg e]
    match q, hq, e with
    | 0, _, _ => rfl
    | 1, _, _ => rfl
    | 2, _, _ => rfl
    | 3, _, _ => rfl
    | 4, _, _ => rfl
    | 5, _, _ => rfl
    | 6, _, _ => rfl
    | 7, _, _ => rfl
    | 8, _, _ => rfl
    | 9, _, _ => rfl
    | 10, _, e => exact absurd rfl e
    | q + 11, h, _ => omega

