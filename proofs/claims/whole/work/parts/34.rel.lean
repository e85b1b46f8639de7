/-! CLASS AND REFERENCE SIDE BY SIDE -/
def jR (c : CS) (tx : Int → Int) (ty : Int) (td ss pa : Int → Int) (kn : Int) (im : Int → Int) (kp : Int) (ns : Int → Int) (nd : Int) : Prop :=
  okC c ∧ (ty = c.2.1.2.2 ∧ ∀ i : Int, 0 ≤ i → i < ty → tx i = c.2.1.1 i) ∧ mR td ss (c.1 0) ∧ (kn = c.2.2.2.2.1.2 ∧ ∀ i : Int, 0 ≤ i → i < kn → okV (c.1 (c.2.2.2.2.1.1 i)) ∧ sliceR td pa i (c.1 (c.2.2.2.2.1.1 i))) ∧ (kp = c.2.2.2.2.2.2 ∧ ∀ i : Int, 0 ≤ i → i < kp → okV (c.1 (c.2.2.2.2.2.1 i)) ∧ sliceR td im i (c.1 (c.2.2.2.2.2.1 i))) ∧ (nd = c.2.2.2.1.2.2 ∧ ∀ k : Int, 0 ≤ k → k < nd → ns k = 20 * c.2.2.2.1.1 k + c.2.2.2.1.2.1 k)
def jRel (Kc Km : zK) (u1 u2 : zE) : Prop := ∃ (c : CS) (tx : Int → Int) (ty : Int) (td dr bg ss pa : Int → Int) (kn : Int) (im : Int → Int) (kp : Int) (ns : Int → Int) (nd ap la : Int) (hh tt : Int → Int), jR c tx ty td ss pa kn im kp ns nd ∧ u1 = layC Kc c ∧ u2 = layM Km tx ty td dr bg ss pa kn im kp ns nd ap la hh tt
theorem jRel_i {Kc Km : zK} {c : CS} {tx : Int → Int} {ty : Int} {td dr bg ss pa : Int → Int} {kn : Int} {im : Int → Int} {kp : Int} {ns : Int → Int} {nd ap la : Int} {hh tt : Int → Int} (h : jR c tx ty td ss pa kn im kp ns nd) : jRel Kc Km (layC Kc c) (layM Km tx ty td dr bg ss pa kn im kp ns nd ap la hh tt) := ⟨c, tx, ty, td, dr, bg, ss, pa, kn, im, kp, ns, nd, ap, la, hh, tt, h, rfl, rfl⟩
section SIM
variable {c : CS} {tx : Int → Int} {ty : Int} {td ss pa : Int → Int} {kn : Int} {im : Int → Int} {kp : Int} {ns : Int → Int} {nd : Int}
theorem jR_okT (h : jR c tx ty td ss pa kn im kp ns nd) : okT tx ty := by
  obtain ⟨hc, ⟨t1, t2⟩, -⟩ := h
  have h3 := hc.2.1
  rw [← t1] at h3
  exact ⟨h3.1, fun i h0 h1 => by rw [t2 i h0 h1]; exact h3.2 i h0 h1⟩
theorem jR_kn (h : jR c tx ty td ss pa kn im kp ns nd) : 0 ≤ kn ∧ kn ≤ 8 := by
  obtain ⟨hc, -, -, ⟨k1, -⟩, -⟩ := h
  rw [k1]
  exact hc.2.2.2.2.1.1
theorem jR_kp (h : jR c tx ty td ss pa kn im kp ns nd) : 0 ≤ kp ∧ kp ≤ 2 := by
  obtain ⟨hc, -, -, -, ⟨k1, -⟩, -⟩ := h
  rw [k1]
  exact hc.2.2.2.2.2.1
theorem jR_nd (h : jR c tx ty td ss pa kn im kp ns nd) : 0 ≤ nd ∧ nd ≤ 6 := by
  obtain ⟨hc, -, -, -, -, ⟨k1, -⟩⟩ := h
  rw [k1]
  exact hc.2.2.2.1.1
theorem jR_ns (h : jR c tx ty td ss pa kn im kp ns nd) : okNs ns nd (qn (c.1 0)) := by
  have h0 := jR_nd h
  obtain ⟨hc, -, -, -, -, ⟨k1, k2⟩⟩ := h
  refine ⟨h0, fun k k0 k3 => ?_⟩
  have h1 := hc.2.2.2.1.2 k k0 (by rw [← k1]; exact k3)
  rw [k2 k k0 k3]
  omega
theorem jR_v (h : jR c tx ty td ss pa kn im kp ns nd) : okV (c.1 0) := h.1.1
theorem jR_m (h : jR c tx ty td ss pa kn im kp ns nd) : mR td ss (c.1 0) := h.2.2.1
theorem sl_qn {td pa ss : Int → Int} {i : Int} {v w : SV} (h : sliceR td pa i v) (h2 : mR td ss w) : qn v = qn w := h.1.symm.trans h2.1
/-- behind a question -/
theorem sim_q (h : jR c tx ty td ss pa kn im kp ns nd) {d : CS} (hd : eqS c d) {s2 : Int → Int} (hm : mR td s2 (c.1 0)) : jR d tx ty td s2 pa kn im kp ns nd := by
  obtain ⟨hc, ⟨t1, t2⟩, hr, ⟨k1, k2⟩, ⟨p1, p2⟩, n1, n2⟩ := h
  obtain ⟨g1, g2, g3, g4, g5⟩ := hd
  obtain ⟨o1, o2, o3, o4, o5, o6⟩ := hc
  have e0 : d.1 0 = c.1 0 := g1 0 (by decide)
  unfold jR okC
  rw [g5, g2, g3, e0]
  refine ⟨⟨o1, o2, g4, o4, o5, o6⟩, ⟨t1, t2⟩, hm, ⟨k1, fun i i0 i1 => ?_⟩, ⟨p1, fun i i0 i1 => ?_⟩, n1, n2⟩
  · have h9 := o5.2.1 i i0 (by have := o5.1; omega)
    rw [g1 _ (by omega)]
    exact k2 i i0 i1
  · have h9 := o6.2.1 i i0 (by have := o6.1; omega)
    rw [g1 _ (by omega)]
    exact p2 i i0 i1
/-- behind an act -/
theorem sim_put (h : jR c tx ty td ss pa kn im kp ns nd) {g : Int → Nat} {m : Int} {p2 : Int → Int} {k2 : Int} {s2 : Int → Int} {w : SV} (hp : putR c g m) (hk : keepR pa ss kn p2 k2) (hm : mR td s2 w) (hw : okV w) : jR (wS (putC c g m) 0 w) tx ty td s2 p2 k2 im kp ns nd := by
  obtain ⟨hc, ⟨t1, t2⟩, hr, ⟨k1, kk⟩, ⟨p1, pp⟩, n1, n2⟩ := h
  obtain ⟨o1, o2, o3, o4, o5, o6⟩ := hc
  have hb := putR_b o5 hp
  have eq : qn w = qn (c.1 0) := hm.1.symm.trans hr.1
  have a0 : (wS (putC c g m) 0 w).1 0 = w := wS_s _ _ _
  have a1 : (wS (putC c g m) 0 w).1 (g m) = cpV (c.1 0) (c.1 (g m)) := (wS_n _ _ (by omega)).trans (wS_s c (g m) _)
  have a2 : ∀ j : Nat, j ≠ 0 → j ≠ g m → (wS (putC c g m) 0 w).1 j = c.1 j := fun j h1 h2 => (wS_n _ _ h1).trans (wS_n c _ h2)
  have hL : okL 8 2 g (m + 1) := by
    obtain ⟨l1, l2, l3⟩ := o5
    rcases hp with ⟨x1, x2, x3⟩ | ⟨x1, x2, x3, x4⟩
    · subst x2
      exact ⟨by omega, l2, l3⟩
    · refine ⟨by omega, fun i i0 i1 => ?_, fun i j i0 i1 j0 j1 e => ?_⟩
      · by_cases hi : i < 7
        · rw [x3 i i0 hi]
          exact l2 (i + 1) (by omega) (by omega)
        · rw [show i = 7 by omega, x4]
          exact l2 0 (by omega) (by omega)
      · by_cases hi : i < 7
        · rw [x3 i i0 hi] at e
          by_cases hj : j < 7
          · rw [x3 j j0 hj] at e
            have := l3 (i + 1) (j + 1) (by omega) (by omega) (by omega) (by omega) e
            omega
          · rw [show j = 7 by omega, x4] at e
            have := l3 (i + 1) 0 (by omega) (by omega) (by omega) (by omega) e
            omega
        · rw [show i = 7 by omega, x4] at e
          by_cases hj : j < 7
          · rw [x3 j j0 hj] at e
            have := l3 0 (j + 1) (by omega) (by omega) (by omega) (by omega) e
            omega
          · omega
  refine ⟨⟨?_, o2, o3, ?_, hL, o6⟩, ⟨t1, t2⟩, ?_, ⟨?_, fun i i0 i1 => ?_⟩, ⟨p1, fun i i0 i1 => ?_⟩, n1, n2⟩
  · rw [a0]
    exact hw
  · rw [a0, eq]
    exact o4
  · rw [a0]
    exact hm
  · show k2 = m + 1
    rcases hp with ⟨x1, x2, x3⟩ | ⟨x1, x2, x3, x4⟩ <;> rcases hk with ⟨y1, y2, y3⟩ | ⟨y1, y2, y3⟩ <;> omega
  · show okV ((wS (putC c g m) 0 w).1 (g i)) ∧ sliceR td p2 i ((wS (putC c g m) 0 w).1 (g i))
    have hk2 : k2 = m + 1 := by
      rcases hp with ⟨x1, x2, x3⟩ | ⟨x1, x2, x3, x4⟩ <;> rcases hk with ⟨y1, y2, y3⟩ | ⟨y1, y2, y3⟩ <;> omega
    have hgi := hL.2.1 i i0 (by omega)
    by_cases him : i = m
    · subst him
      rw [a1]
      refine ⟨eqv_okV (eqv_cpV _ _) o1, ?_⟩
      have hs : ∀ y : Int, 0 ≤ y → y < 31 → p2 (31 * i + y) = ss y := by
        rcases hp with ⟨x1, x2, x3⟩ | ⟨x1, x2, x3, x4⟩
        · rcases hk with ⟨y1, y2, y3, y4⟩ | ⟨y1, y2, y3, y4⟩
          · intro y y0 y5
            rw [show 31 * i + y = 31 * kn + y by omega]
            exact y3 y y0 y5
          · omega
        · rcases hk with ⟨y1, y2, y3, y4⟩ | ⟨y1, y2, y3, y4⟩
          · omega
          · intro y y0 y5
            rw [show 31 * i + y = 217 + y by omega]
            exact y3 y y0 y5
      have h9 : mR td (fun y => p2 (31 * i + y)) (c.1 0) := mR_31 hr o1.1.2 hs
      exact mR_eqv h9 o1.1.2 (eqv_sy (eqv_cpV _ _))
    · have hne : g i ≠ g m := fun e => him (hL.2.2 i m i0 (by omega) (by omega) (by omega) e)
      rw [a2 _ (by omega) hne]
      rcases hp with ⟨x1, x2, x3⟩ | ⟨x1, x2, x3, x4⟩
      · rcases hk with ⟨y1, y2, y3, y4⟩ | ⟨y1, y2, y3, y4⟩
        · have h9 := kk i i0 (by omega)
          rw [← x2] at h9
          exact ⟨h9.1, mR_31 h9.2 h9.1.1.2 (fun y y0 y5 => y4 (31 * i + y) (by omega) (by omega))⟩
        · omega
      · rcases hk with ⟨y1, y2, y3, y4⟩ | ⟨y1, y2, y3, y4⟩
        · omega
        · have h9 := kk (i + 1) (by omega) (by omega)
          rw [← x3 i i0 (by omega)] at h9
          refine ⟨h9.1, mR_31 h9.2 h9.1.1.2 (fun y y0 y5 => ?_)⟩
          show p2 (31 * i + y) = pa (31 * (i + 1) + y)
          rw [y4 (31 * i + y) (by omega) (by omega)]
          congr 1
          omega
  · have hi := o6.2.1 i i0 (by have := o6.1; omega)
    show okV ((wS (putC c g m) 0 w).1 (c.2.2.2.2.2.1 i)) ∧ sliceR td im i ((wS (putC c g m) 0 w).1 (c.2.2.2.2.2.1 i))
    rw [a2 _ (by omega) (by omega)]
    exact pp i i0 i1
theorem sim_undo (h : jR c tx ty td ss pa kn im kp ns nd) (h1 : 1 ≤ kn) {s2 : Int → Int} (hs : ∀ y : Int, 0 ≤ y → y < 31 → s2 y = pa (31 * (kn - 1) + y)) : jR (wU (wS c 0 (cpV (c.1 (c.2.2.2.2.1.1 (c.2.2.2.2.1.2 - 1))) (c.1 0))) (c.2.2.2.2.1.1, c.2.2.2.2.1.2 - 1)) tx ty td s2 pa (kn - 1) im kp ns nd := by
  obtain ⟨hc, ⟨t1, t2⟩, hr, ⟨k1, kk⟩, ⟨p1, pp⟩, n1, n2⟩ := h
  obtain ⟨o1, o2, o3, o4, o5, o6⟩ := hc
  have h9 := kk (kn - 1) (by omega) (by omega)
  rw [← k1]
  have hq := sl_qn h9.2 hr
  have e := eqv_cpV (c.1 (c.2.2.2.2.1.1 (kn - 1))) (c.1 0)
  have hm : mR td s2 (cpV (c.1 (c.2.2.2.2.1.1 (kn - 1))) (c.1 0)) := mR_eqv (mR_31 h9.2 h9.1.1.2 hs) h9.1.1.2 (eqv_sy e)
  refine ⟨⟨eqv_okV e h9.1, o2, o3, ?_, ⟨?_, o5.2.1, o5.2.2⟩, o6⟩, ⟨t1, t2⟩, hm, ⟨rfl, fun i i0 i1 => ?_⟩, ⟨p1, fun i i0 i1 => ?_⟩, n1, n2⟩
  · show okW _ _ _ (qn (c.1 (c.2.2.2.2.1.1 (kn - 1))))
    rw [hq]
    exact o4
  · show 0 ≤ kn - 1 ∧ kn - 1 ≤ 8
    have := o5.1
    omega
  · have hi := o5.2.1 i i0 (by have := o5.1; omega)
    show okV ((wS c 0 _).1 (c.2.2.2.2.1.1 i)) ∧ sliceR td pa i ((wS c 0 _).1 (c.2.2.2.2.1.1 i))
    rw [wS_n _ _ (by omega)]
    exact kk i i0 (by omega)
  · have hi := o6.2.1 i i0 (by have := o6.1; omega)
    show okV ((wS c 0 _).1 (c.2.2.2.2.2.1 i)) ∧ sliceR td im i ((wS c 0 _).1 (c.2.2.2.2.2.1 i))
    rw [wS_n _ _ (by omega)]
    exact pp i i0 i1
theorem sim_keep (h : jR c tx ty td ss pa kn im kp ns nd) (h1 : kp < 2) {i2 : Int → Int} (hs : ∀ y : Int, 0 ≤ y → y < 31 → i2 (31 * kp + y) = ss y) (ho : ∀ y : Int, 0 ≤ y → y < 31 * kp → i2 y = im y) : jR (wP (wS c (c.2.2.2.2.2.1 c.2.2.2.2.2.2) (cpV (c.1 0) (c.1 (c.2.2.2.2.2.1 c.2.2.2.2.2.2)))) (c.2.2.2.2.2.1, c.2.2.2.2.2.2 + 1)) tx ty td ss pa kn i2 (kp + 1) ns nd := by
  obtain ⟨hc, ⟨t1, t2⟩, hr, ⟨k1, kk⟩, ⟨p1, pp⟩, n1, n2⟩ := h
  obtain ⟨o1, o2, o3, o4, o5, o6⟩ := hc
  rw [← p1]
  have hb := o6.1
  rw [← p1] at hb
  have hg := o6.2.1 kp hb.1 h1
  have e := eqv_cpV (c.1 0) (c.1 (c.2.2.2.2.2.1 kp))
  have a0 : ∀ w : SV, (wS c (c.2.2.2.2.2.1 kp) w).1 0 = c.1 0 := fun w => wS_n _ _ (by omega)
  refine ⟨⟨?_, o2, o3, ?_, o5, ⟨?_, o6.2.1, o6.2.2⟩⟩, ⟨t1, t2⟩, ?_, ⟨k1, fun i i0 i1 => ?_⟩, ⟨rfl, fun i i0 i1 => ?_⟩, n1, n2⟩
  · show okV ((wS c _ _).1 0)
    rw [a0]
    exact o1
  · show okW _ _ _ (qn ((wS c _ _).1 0))
    rw [a0]
    exact o4
  · show 0 ≤ kp + 1 ∧ kp + 1 ≤ 2
    omega
  · show mR td ss ((wS c _ _).1 0)
    rw [a0]
    exact hr
  · have hi := o5.2.1 i i0 (by have := o5.1; omega)
    show okV ((wS c _ _).1 (c.2.2.2.2.1.1 i)) ∧ sliceR td pa i ((wS c _ _).1 (c.2.2.2.2.1.1 i))
    rw [wS_n _ _ (by omega)]
    exact kk i i0 i1
  · show okV ((wS c _ _).1 (c.2.2.2.2.2.1 i)) ∧ sliceR td i2 i ((wS c _ _).1 (c.2.2.2.2.2.1 i))
    by_cases hi : i = kp
    · subst hi
      rw [wS_s]
      exact ⟨eqv_okV e o1, mR_eqv (mR_31 hr o1.1.2 hs) o1.1.2 (eqv_sy e)⟩
    · have hne : c.2.2.2.2.2.1 i ≠ c.2.2.2.2.2.1 kp := fun e => hi (o6.2.2 i kp i0 (by omega) hb.1 h1 e)
      rw [wS_n _ _ hne]
      have h9 := pp i i0 (by omega)
      exact ⟨h9.1, mR_31 h9.2 h9.1.1.2 (fun y y0 y1 => ho (31 * i + y) (by omega) (by omega))⟩
theorem sim_back (h : jR c tx ty td ss pa kn im kp ns nd) (h1 : 1 ≤ kp) {s2 : Int → Int} (hs : ∀ y : Int, 0 ≤ y → y < 31 → s2 y = im (31 * (kp - 1) + y)) : jR (wU (wP (wS c 0 (cpV (c.1 (c.2.2.2.2.2.1 (c.2.2.2.2.2.2 - 1))) (c.1 0))) (c.2.2.2.2.2.1, c.2.2.2.2.2.2 - 1)) (c.2.2.2.2.1.1, 0)) tx ty td s2 pa 0 im (kp - 1) ns nd := by
  obtain ⟨hc, ⟨t1, t2⟩, hr, ⟨k1, kk⟩, ⟨p1, pp⟩, n1, n2⟩ := h
  obtain ⟨o1, o2, o3, o4, o5, o6⟩ := hc
  have h9 := pp (kp - 1) (by omega) (by omega)
  rw [← p1]
  have hb := o6.1
  rw [← p1] at hb
  have hq := sl_qn h9.2 hr
  have e := eqv_cpV (c.1 (c.2.2.2.2.2.1 (kp - 1))) (c.1 0)
  have hm : mR td s2 (cpV (c.1 (c.2.2.2.2.2.1 (kp - 1))) (c.1 0)) := mR_eqv (mR_31 h9.2 h9.1.1.2 hs) h9.1.1.2 (eqv_sy e)
  refine ⟨⟨eqv_okV e h9.1, o2, o3, ?_, ⟨⟨Int.le_refl _, (by decide : (0 : Int) ≤ 8)⟩, o5.2.1, o5.2.2⟩, ⟨?_, o6.2.1, o6.2.2⟩⟩, ⟨t1, t2⟩, hm, ⟨rfl, fun i i0 i1 => absurd i1 (by omega)⟩, ⟨rfl, fun i i0 i1 => ?_⟩, n1, n2⟩
  · show okW _ _ _ (qn (c.1 (c.2.2.2.2.2.1 (kp - 1))))
    rw [hq]
    exact o4
  · show 0 ≤ kp - 1 ∧ kp - 1 ≤ 2
    omega
  · have hi := o6.2.1 i i0 (by omega)
    show okV ((wS c 0 _).1 (c.2.2.2.2.2.1 i)) ∧ sliceR td im i ((wS c 0 _).1 (c.2.2.2.2.2.1 i))
    rw [wS_n _ _ (by omega)]
    exact pp i i0 (by omega)
/-- the text alone -/
theorem sim_text (h : jR c tx ty td ss pa kn im kp ns nd) {lt nu : Int → Int} {le : Int} {x2 : Int → Int} (ht : okT lt le) (hnu : okN nu) (he : ∀ i : Int, 0 ≤ i → i < le → x2 i = lt i) : jR (wT c (lt, nu, le)) x2 le td ss pa kn im kp ns nd := by
  obtain ⟨hc, -, h3⟩ := h
  obtain ⟨o1, o2, o3, o4⟩ := hc
  exact ⟨⟨o1, ht, hnu, o4⟩, ⟨rfl, he⟩, h3⟩
/-- what is tried alone -/
theorem sim_try (h : jR c tx ty td ss pa kn im kp ns nd) (w : SV) {nu : Int → Int} (hnu : okN nu) : jR (wT (wS c 1 w) (c.2.1.1, nu, c.2.1.2.2)) tx ty td ss pa kn im kp ns nd := by
  exact sim_q (d := wT (wS c 1 w) (c.2.1.1, nu, c.2.1.2.2)) h ⟨fun j hj => wS_n c w hj, rfl, rfl, hnu, rfl⟩ h.2.2.1
theorem sim_lay (h : jR c tx ty td ss pa kn im kp ns nd) {w : SV} (hw : okV w) {nu t2 s2 : Int → Int} (hnu : okN nu) (hm : mR t2 s2 w) : jR (wP (wU (wV (wS (wT (wS c 1 w) (c.2.1.1, nu, c.2.1.2.2)) 0 (cpV w (c.1 0))) (c.2.2.2.1.1, c.2.2.2.1.2.1, 0)) (c.2.2.2.2.1.1, 0)) (c.2.2.2.2.2.1, 0)) tx ty t2 s2 pa 0 im 0 ns 0 := by
  obtain ⟨hc, ⟨t1, te⟩, hr, ⟨k1, kk⟩, ⟨p1, pp⟩, n1, n2⟩ := h
  obtain ⟨o1, o2, o3, o4, o5, o6⟩ := hc
  have e := eqv_cpV w (c.1 0)
  have z0 : (0 : Int) ≤ 0 := Int.le_refl _
  refine ⟨⟨eqv_okV e hw, o2, hnu, ⟨⟨z0, (by decide : (0 : Int) ≤ 6)⟩, fun k k0 k2 => absurd (show k < 0 from k2) (by omega)⟩, ⟨⟨z0, (by decide : (0 : Int) ≤ 8)⟩, o5.2.1, o5.2.2⟩, ⟨⟨z0, (by decide : (0 : Int) ≤ 2)⟩, o6.2.1, o6.2.2⟩⟩, ⟨t1, te⟩, mR_eqv hm hw.1.2 (eqv_sy e), ⟨rfl, fun i i0 i1 => absurd i1 (by omega)⟩, ⟨rfl, fun i i0 i1 => absurd i1 (by omega)⟩, rfl, fun i i0 i1 => absurd i1 (by omega)⟩
theorem sim_seen (h : jR c tx ty td ss pa kn im kp ns nd) {i n : Int} (hi : 0 ≤ i ∧ i < qn (c.1 0)) (hn : 0 ≤ n ∧ n ≤ 18) (h5 : nd ≤ 5) : jR (wV c (uI c.2.2.2.1.1 c.2.2.2.1.2.2 i, uI c.2.2.2.1.2.1 c.2.2.2.1.2.2 n, c.2.2.2.1.2.2 + 1)) tx ty td ss pa kn im kp (uI ns nd (20 * i + n)) (nd + 1) := by
  have hb := jR_nd h
  obtain ⟨hc, ht, hr, hk, hp, n1, n2⟩ := h
  obtain ⟨o1, o2, o3, o4, o5, o6⟩ := hc
  rw [← n1]
  rw [← n1] at o4
  refine ⟨⟨o1, o2, o3, ⟨?_, fun k k0 k1 => ?_⟩, o5, o6⟩, ht, hr, hk, hp, rfl, fun k k0 k1 => ?_⟩
  · show 0 ≤ nd + 1 ∧ nd + 1 ≤ 6
    omega
  · have k1 : k < nd + 1 := k1
    show (0 ≤ uI c.2.2.2.1.1 nd i k ∧ uI c.2.2.2.1.1 nd i k < qn (c.1 0)) ∧ 0 ≤ uI c.2.2.2.1.2.1 nd n k ∧ uI c.2.2.2.1.2.1 nd n k ≤ 18
    unfold uI
    by_cases e : k = nd
    · rw [if_pos e, if_pos e]
      exact ⟨hi, hn⟩
    · rw [if_neg e, if_neg e]
      exact o4.2 k k0 (by omega)
  · show uI ns nd (20 * i + n) k = 20 * uI c.2.2.2.1.1 nd i k + uI c.2.2.2.1.2.1 nd n k
    unfold uI
    by_cases e : k = nd
    · rw [if_pos e, if_pos e, if_pos e]
    · rw [if_neg e, if_neg e, if_neg e]
      exact n2 k k0 (by omega)
theorem sim_forget (h : jR c tx ty td ss pa kn im kp ns nd) : jR (wV c (c.2.2.2.1.1, c.2.2.2.1.2.1, 0)) tx ty td ss pa kn im kp ns 0 := by
  obtain ⟨hc, ht, hr, hk, hp, -⟩ := h
  obtain ⟨o1, o2, o3, o4, o5, o6⟩ := hc
  exact ⟨⟨o1, o2, o3, ⟨⟨Int.le_refl _, (by decide : (0 : Int) ≤ 6)⟩, fun k k0 k2 => absurd (show k < 0 from k2) (by omega)⟩, o5, o6⟩, ht, hr, hk, hp, rfl, fun i i0 i1 => absurd i1 (by omega)⟩
end SIM
/-! what is found is found once -/
theorem det_first {B P N : Nat → Prop} (hPN : ∀ k, P k → N k → False) {z z2 : Int} (h : (∃ k : Nat, B k ∧ P k ∧ (∀ m : Nat, m < k → N m) ∧ z = (k : Int)) ∨ ((∀ m : Nat, B m → N m) ∧ z = -4)) (h2 : (∃ k : Nat, B k ∧ P k ∧ (∀ m : Nat, m < k → N m) ∧ z2 = (k : Int)) ∨ ((∀ m : Nat, B m → N m) ∧ z2 = -4)) : z = z2 := by
  rcases h with ⟨k, b, p, n, rfl⟩ | ⟨n, rfl⟩
  · rcases h2 with ⟨k2, b2, p2, n2, rfl⟩ | ⟨n2, rfl⟩
    · rcases Nat.lt_trichotomy k k2 with h | h | h
      · exact (hPN k p (n2 k h)).elim
      · rw [h]
      · exact (hPN k2 p2 (n k2 h)).elim
    · exact (hPN k p (n2 k b)).elim
  · rcases h2 with ⟨k2, b2, p2, n2, rfl⟩ | ⟨n2, rfl⟩
    · exact (hPN k2 p2 (n k2 b2)).elim
    · rfl
theorem untilP_det {v : SV} {z z2 : Int} (h : untilP v z) (h2 : untilP v z2) : z = z2 := det_first (B := fun k => (k : Int) ≤ qro v) (P := fun k => qam (roundsV v k).1 = 0) (N := fun k => qam (roundsV v k).1 ≠ 0) (fun _ a b => b a) h h2
theorem spoilP_det {v : SV} {z z2 : Int} (h : spoilP v z) (h2 : spoilP v z2) : z = z2 := det_first (B := fun k => qsa v + (k : Int) ≤ 9) (P := fun k => passI (saV v (qsa v + (k : Int))) = 0) (N := fun k => passI (saV v (qsa v + (k : Int))) = 1) (fun _ a b => by rw [a] at b; exact absurd b (by decide)) h h2
theorem waitsP_det {v : SV} {z z2 : Int} (h : waitsP v z) (h2 : waitsP v z2) : z = z2 := det_first (B := fun k => k ≤ 9) (P := fun k => passI (heV v (max (qhe v - (k : Int)) 0)) = 1) (N := fun k => passI (heV v (max (qhe v - (k : Int)) 0)) = 0) (fun _ a b => by rw [a] at b; exact absurd b (by decide)) h h2
theorem fastsP_det {v : SV} {z z2 : Int} (h : fastsP v z) (h2 : fastsP v z2) : z = z2 := det_first (B := fun k => k ≤ 10) (P := fun k => passI (fastK v k) = 1) (N := fun k => passI (fastK v k) = 0) (fun _ a b => by rw [a] at b; exact absurd b (by decide)) h h2
theorem tradeP_det {v : SV} {z z2 : Int} (h : tradeP v z) (h2 : tradeP v z2) : z = z2 := by
  have no : ∀ x : Int, x = 1 → x = 0 → False := fun x a b => by omega
  rcases h with ⟨a, rfl⟩ | ⟨a, h⟩
  · rcases h2 with ⟨b, rfl⟩ | ⟨b, h2⟩
    · rfl
    · exact (no _ a b).elim
  · rcases h2 with ⟨b, rfl⟩ | ⟨b, h2⟩
    · exact (no _ b a).elim
    · rcases h with ⟨i, j, ⟨i1, i2, i3⟩, p, n, rfl⟩ | ⟨n, rfl⟩
      · rcases h2 with ⟨i', j', ⟨j1, j2, j3⟩, p', n', rfl⟩ | ⟨n', rfl⟩
        · by_cases hb : befP i j i' j'
          · exact (no _ p (n' i j i1 i2 i3 hb)).elim
          · by_cases hb2 : befP i' j' i j
            · exact (no _ p' (n i' j' j1 j2 j3 hb2)).elim
            · unfold befP at hb hb2
              omega
        · exact (no _ p (n' i j i1 i2 i3)).elim
      · rcases h2 with ⟨i', j', ⟨j1, j2, j3⟩, p', n', rfl⟩ | ⟨n', rfl⟩
        · exact (no _ p' (n i' j' j1 j2 j3)).elim
        · rfl
theorem soN_c {v w : SV} {wh mu wh2 mu2 : Int → Int} (k : Nat) (h : ∀ i : Int, 0 ≤ i → i < (k : Int) → wh i = wh2 i ∧ mu i = mu2 i) : soN v w wh mu k = soN v w wh2 mu2 k := by
  induction k with
  | zero => rfl
  | succ k ih =>
    unfold soN
    have h9 := h (k : Int) (by omega) (by omega)
    rw [ih (fun i i0 i1 => h i i0 (by omega)), h9.1, h9.2]
theorem mayN_c {v : SV} {wh mu wh2 mu2 : Int → Int} {my : Nat} (what : Int) (h : ∀ i : Int, 0 ≤ i → i < (my : Int) → wh i = wh2 i ∧ mu i = mu2 i) (k : Nat) : mayN v wh mu my what k = mayN v wh2 mu2 my what k := by
  induction k with
  | zero => rfl
  | succ k ih =>
    unfold mayN
    rw [ih, soN_c my h]
theorem okV_waitV2 {v : SV} (h : okV v) : okV (waitV v) := okV_waitV h
