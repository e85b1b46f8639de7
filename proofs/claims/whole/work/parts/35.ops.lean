set_option maxHeartbeats 1000000 in
theorem op_write {Kc Km : zK} {c : CS} {tx : Int → Int} {ty : Int} {td dr bg ss pa : Int → Int} {kn : Int} {im : Int → Int} {kp : Int} {ns : Int → Int} {nd ap la : Int} {hh tt : Int → Int} (h : jR c tx ty td ss pa kn im kp ns nd) {x : Int} {z1 z2 : Int} {w1 w2 : zE} (h1 : (fun (z : Int) (u : zE) => ((x < 32 ∨ 126 < x) ∧ z = -1 ∧ u = (layC Kc c)) ∨ ((32 ≤ x ∧ x ≤ 126) ∧ c.2.1.2.2 < 200 ∧ z = c.2.1.2.2 + 1 ∧ u = layC Kc (wT c (uI c.2.1.1 c.2.1.2.2 x, c.2.1.2.1, c.2.1.2.2 + 1))) ∨ ((32 ≤ x ∧ x ≤ 126) ∧ c.2.1.2.2 = 200 ∧ z = -3 ∧ u = (layC Kc c))) z1 w1) (h2 : (fun (z : Int) (u : zE) => ((x < 32 ∨ 126 < x) ∧ z = -1 ∧ u = (layM Km tx ty td dr bg ss pa kn im kp ns nd ap la hh tt)) ∨ ((32 ≤ x ∧ x ≤ 126) ∧ ty < 200 ∧ z = ty + 1 ∧ u = (layM Km (uI tx ty x) (ty + 1) td dr bg ss pa kn im kp ns nd ap la hh tt)) ∨ ((32 ≤ x ∧ x ≤ 126) ∧ ty = 200 ∧ z = -3 ∧ u = (layM Km tx ty td dr bg ss pa kn im kp ns nd ap la hh tt))) z2 w2) : z1 = z2 ∧ jRel Kc Km w1 w2 := by
  have ht := h.1.2.1
  have hnu := h.1.2.2.1
  obtain ⟨e, te⟩ := h.2.1
  subst e
  rcases h1 with ⟨a1, rfl, rfl⟩ | ⟨a1, a2, rfl, rfl⟩ | ⟨a1, a2, rfl, rfl⟩ <;> rcases h2 with ⟨b1, rfl, rfl⟩ | ⟨b1, b2, rfl, rfl⟩ | ⟨b1, b2, rfl, rfl⟩
  · exact ⟨rfl, jRel_i h⟩
  · exfalso; omega
  · exfalso; omega
  · exfalso; omega
  · refine ⟨rfl, jRel_i (sim_text h ⟨by have := ht.1; omega, fun i i0 i1 => ?_⟩ hnu (fun i i0 i1 => ?_))⟩
    · unfold uI
      split
      · exact a1
      · exact ht.2 i i0 (by omega)
    · unfold uI
      split
      · rfl
      · exact te i i0 (by omega)
  · exfalso; omega
  · exfalso; omega
  · exfalso; omega
  · exact ⟨rfl, jRel_i h⟩
set_option maxHeartbeats 1000000 in
theorem op_wipe {Kc Km : zK} {c : CS} {tx : Int → Int} {ty : Int} {td dr bg ss pa : Int → Int} {kn : Int} {im : Int → Int} {kp : Int} {ns : Int → Int} {nd ap la : Int} {hh tt : Int → Int} (h : jR c tx ty td ss pa kn im kp ns nd) {z1 z2 : Int} {w1 w2 : zE} (h1 : (fun (z : Int) (u : zE) => z = c.2.1.2.2 ∧ u = layC Kc (wT c (c.2.1.1, c.2.1.2.1, 0))) z1 w1) (h2 : (fun (z : Int) (u : zE) => z = ty ∧ u = (layM Km tx 0 td dr bg ss pa kn im kp ns nd ap la hh tt)) z2 w2) : z1 = z2 ∧ jRel Kc Km w1 w2 := by
  have hnu := h.1.2.2.1
  obtain ⟨e, te⟩ := h.2.1
  obtain ⟨rfl, rfl⟩ := h1
  obtain ⟨rfl, rfl⟩ := h2
  exact ⟨e.symm, jRel_i (sim_text h ⟨⟨Int.le_refl _, (by decide : (0 : Int) ≤ 200)⟩, fun i i0 i1 => absurd i1 (by omega)⟩ hnu (fun i i0 i1 => absurd i1 (by omega)))⟩
set_option maxHeartbeats 1000000 in
theorem op_fault {Kc Km : zK} {c : CS} {tx : Int → Int} {ty : Int} {td dr bg ss pa : Int → Int} {kn : Int} {im : Int → Int} {kp : Int} {ns : Int → Int} {nd ap la : Int} {hh tt : Int → Int} (h : jR c tx ty td ss pa kn im kp ns nd) {z1 z2 : Int} {w1 w2 : zE} (h1 : (fun (z : Int) (u : zE) => ∃ (nu1 : Int → Int) (w : SV), okN nu1 ∧ faultP c.2.1.1 c.2.1.2.2 (c.1 1) z w ∧ u = layC Kc (wT (wS c 1 w) (c.2.1.1, nu1, c.2.1.2.2))) z1 w1) (h2 : (fun (z : Int) (u : zE) => ∃ (w : SV) (d2 b2 : Int → Int) (a2 : Int), faultP tx ty (c.1 1) z w ∧ u = (layM Km tx ty td d2 b2 ss pa kn im kp ns nd a2 la hh tt)) z2 w2) : z1 = z2 ∧ jRel Kc Km w1 w2 := by
  have hl := h.1.2.1.1.1
  obtain ⟨e, te⟩ := h.2.1
  obtain ⟨nu1, w, hnu, hf, rfl⟩ := h1
  obtain ⟨w2, d2, b2, a2, hf2, rfl⟩ := h2
  rw [e] at hf2 te
  have h3 := faultP_det hl hf (faultP_at te hf2)
  exact ⟨h3.1, jRel_i (sim_try h w hnu)⟩
set_option maxHeartbeats 1000000 in
theorem op_lay {Kc Km : zK} {c : CS} {tx : Int → Int} {ty : Int} {td dr bg ss pa : Int → Int} {kn : Int} {im : Int → Int} {kp : Int} {ns : Int → Int} {nd ap la : Int} {hh tt : Int → Int} (h : jR c tx ty td ss pa kn im kp ns nd) {z1 z2 : Int} {w1 w2 : zE} (h1 : (fun (z : Int) (u : zE) => ∃ (nu1 : Int → Int) (w : SV) (y : Int), okN nu1 ∧ faultP c.2.1.1 c.2.1.2.2 (c.1 1) y w ∧ (((y = -4 ∧ qn w ≠ 0) ∧ z = qn w ∧ u = layC Kc (wP (wU (wV (wS (wT (wS c 1 w) (c.2.1.1, nu1, c.2.1.2.2)) 0 (cpV w (c.1 0))) (c.2.2.2.1.1, c.2.2.2.1.2.1, 0)) (c.2.2.2.2.1.1, 0)) (c.2.2.2.2.2.1, 0))) ∨ (¬ (y = -4 ∧ qn w ≠ 0) ∧ z = -2 ∧ u = layC Kc (wT (wS c 1 w) (c.2.1.1, nu1, c.2.1.2.2))))) z1 w1) (h2 : (fun (z : Int) (u : zE) => ∃ (w : SV) (y : Int) (d2 b2 : Int → Int) (a2 : Int), faultP tx ty (c.1 1) y w ∧ (((y = -4 ∧ qn w ≠ 0) ∧ z = qn w ∧ ∃ t2 s2 : Int → Int, mR t2 s2 w ∧ u = (layM Km tx ty t2 d2 b2 s2 pa 0 im 0 ns 0 a2 la hh tt)) ∨ (¬ (y = -4 ∧ qn w ≠ 0) ∧ z = -2 ∧ u = (layM Km tx ty td d2 b2 ss pa kn im kp ns nd a2 la hh tt)))) z2 w2) : z1 = z2 ∧ jRel Kc Km w1 w2 := by
  have hl := h.1.2.1.1.1
  obtain ⟨e, te⟩ := h.2.1
  obtain ⟨nu1, w, y, hnu, hf, h1⟩ := h1
  obtain ⟨w2, y2, d2, b2, a2, hf2, h2⟩ := h2
  rw [e] at hf2 te
  have hc := faultP_c hl hf
  obtain ⟨h3, h4⟩ := faultP_det hl hf (faultP_at te hf2)
  subst h3
  rcases h1 with ⟨a1, rfl, rfl⟩ | ⟨a1, rfl, rfl⟩
  · have h5 := h4 a1.1
    subst h5
    rcases h2 with ⟨b1, rfl, t2, s2, hm, rfl⟩ | ⟨b1, rfl, rfl⟩
    · have hw : okV w := by
        rcases hc with hc | hc
        · exact hc.2
        · exact absurd a1.1 hc.2.1
      exact ⟨rfl, jRel_i (sim_lay h hw hnu hm)⟩
    · exact absurd a1 b1
  · rcases h2 with ⟨b1, rfl, t2, s2, hm, rfl⟩ | ⟨b1, rfl, rfl⟩
    · have h5 := h4 b1.1
      subst h5
      exact absurd b1 a1
    · exact ⟨rfl, jRel_i (sim_try h w hnu)⟩
set_option maxHeartbeats 1000000 in
theorem op_member {Kc Km : zK} {c : CS} {tx : Int → Int} {ty : Int} {td dr bg ss pa : Int → Int} {kn : Int} {im : Int → Int} {kp : Int} {ns : Int → Int} {nd ap la : Int} {hh tt : Int → Int} (h : jR c tx ty td ss pa kn im kp ns nd) {i w : Int} {z1 z2 : Int} {w1 w2 : zE} (h1 : (fun (z : Int) (u : zE) => z = memI (c.1 0) i w ∧ u = (layC Kc c)) z1 w1) (h2 : (fun (z : Int) (u : zE) => z = memI (c.1 0) i w ∧ u = (layM Km tx ty td dr bg ss pa kn im kp ns nd ap la hh tt)) z2 w2) : z1 = z2 ∧ jRel Kc Km w1 w2 := by
  obtain ⟨rfl, rfl⟩ := h1
  obtain ⟨rfl, rfl⟩ := h2
  exact ⟨rfl, jRel_i h⟩
set_option maxHeartbeats 1000000 in
theorem op_eat {Kc Km : zK} {c : CS} {tx : Int → Int} {ty : Int} {td dr bg ss pa : Int → Int} {kn : Int} {im : Int → Int} {kp : Int} {ns : Int → Int} {nd ap la : Int} {hh tt : Int → Int} (h : jR c tx ty td ss pa kn im kp ns nd) {n : Int} {z1 z2 : Int} {w1 w2 : zE} (h1 : (fun (z : Int) (u : zE) => ((n < 1 ∨ 20 < n) ∧ z = -1 ∧ u = (layC Kc c)) ∨ ((1 ≤ n ∧ n ≤ 20) ∧ ∃ (g : Int → Nat) (m : Int), putR c g m ∧ z = qam (c.1 0) - qam (roundsV (c.1 0) n.toNat).1 ∧ u = layC Kc (wS (putC c g m) 0 (roundsV (c.1 0) n.toNat).1))) z1 w1) (h2 : (fun (z : Int) (u : zE) => ((n < 1 ∨ 20 < n) ∧ z = -1 ∧ u = (layM Km tx ty td dr bg ss pa kn im kp ns nd ap la hh tt)) ∨ ((1 ≤ n ∧ n ≤ 20) ∧ ∃ (p2 : Int → Int) (k2 : Int) (s2 : Int → Int) (lb : Int), keepR pa ss kn p2 k2 ∧ z = qam (c.1 0) - qam (roundsV (c.1 0) n.toNat).1 ∧ mR td s2 (roundsV (c.1 0) n.toNat).1 ∧ u = (layM Km tx ty td dr bg s2 p2 k2 im kp ns nd ap lb hh tt))) z2 w2) : z1 = z2 ∧ jRel Kc Km w1 w2 := by
  rcases h1 with ⟨a1, rfl, rfl⟩ | ⟨a1, g, m, hp, rfl, rfl⟩
  · rcases h2 with ⟨b1, rfl, rfl⟩ | ⟨b1, p2, k2, s2, lb, hk, rfl, hm, rfl⟩
    · exact ⟨rfl, jRel_i h⟩
    · first | exact absurd b1 a1 | exact absurd a1 b1 | (exfalso; omega)
  · rcases h2 with ⟨b1, rfl, rfl⟩ | ⟨b1, p2, k2, s2, lb, hk, rfl, hm, rfl⟩
    · first | exact absurd b1 a1 | exact absurd a1 b1 | (exfalso; omega)
    · exact ⟨rfl, jRel_i (sim_put h hp hk hm (okV_roundsV (jR_v h) _))⟩
set_option maxHeartbeats 1000000 in
theorem op_salt {Kc Km : zK} {c : CS} {tx : Int → Int} {ty : Int} {td dr bg ss pa : Int → Int} {kn : Int} {im : Int → Int} {kp : Int} {ns : Int → Int} {nd ap la : Int} {hh tt : Int → Int} (h : jR c tx ty td ss pa kn im kp ns nd) {z1 z2 : Int} {w1 w2 : zE} (h1 : (fun (z : Int) (u : zE) => (9 ≤ qsa (c.1 0) ∧ z = -2 ∧ u = (layC Kc c)) ∨ (qsa (c.1 0) < 9 ∧ ∃ (g : Int → Nat) (m : Int), putR c g m ∧ z = qsa (saltV (c.1 0)) ∧ u = layC Kc (wS (putC c g m) 0 (saltV (c.1 0))))) z1 w1) (h2 : (fun (z : Int) (u : zE) => (qsa (c.1 0) = 9 ∧ z = -2 ∧ u = (layM Km tx ty td dr bg ss pa kn im kp ns nd ap la hh tt)) ∨ (qsa (c.1 0) < 9 ∧ ∃ (p2 : Int → Int) (k2 : Int) (s2 : Int → Int), keepR pa ss kn p2 k2 ∧ z = qsa (saltV (c.1 0)) ∧ mR td s2 (saltV (c.1 0)) ∧ u = (layM Km tx ty td dr bg s2 p2 k2 im kp ns nd ap la hh tt))) z2 w2) : z1 = z2 ∧ jRel Kc Km w1 w2 := by
  rcases h1 with ⟨a1, rfl, rfl⟩ | ⟨a1, g, m, hp, rfl, rfl⟩
  · rcases h2 with ⟨b1, rfl, rfl⟩ | ⟨b1, p2, k2, s2, hk, rfl, hm, rfl⟩
    · exact ⟨rfl, jRel_i h⟩
    · first | exact absurd b1 a1 | exact absurd a1 b1 | (exfalso; omega)
  · rcases h2 with ⟨b1, rfl, rfl⟩ | ⟨b1, p2, k2, s2, hk, rfl, hm, rfl⟩
    · first | exact absurd b1 a1 | exact absurd a1 b1 | (exfalso; omega)
    · exact ⟨rfl, jRel_i (sim_put h hp hk hm (okV_saltV (jR_v h)))⟩
set_option maxHeartbeats 1000000 in
theorem op_cook {Kc Km : zK} {c : CS} {tx : Int → Int} {ty : Int} {td dr bg ss pa : Int → Int} {kn : Int} {im : Int → Int} {kp : Int} {ns : Int → Int} {nd ap la : Int} {hh tt : Int → Int} (h : jR c tx ty td ss pa kn im kp ns nd) {a : Int} {z1 z2 : Int} {w1 w2 : zE} (h1 : (fun (z : Int) (u : zE) => ((a < 1 ∨ 99 < a) ∧ z = -1 ∧ u = (layC Kc c)) ∨ ((1 ≤ a ∧ a ≤ 99) ∧ a ≤ qam (c.1 0) ∧ z = -2 ∧ u = (layC Kc c)) ∨ ((1 ≤ a ∧ a ≤ 99) ∧ qam (c.1 0) < a ∧ ∃ (g : Int → Nat) (m : Int), putR c g m ∧ z = a ∧ u = layC Kc (wS (putC c g m) 0 (cookV (c.1 0) a)))) z1 w1) (h2 : (fun (z : Int) (u : zE) => ((a < 1 ∨ 99 < a) ∧ z = -1 ∧ u = (layM Km tx ty td dr bg ss pa kn im kp ns nd ap la hh tt)) ∨ ((1 ≤ a ∧ a ≤ 99) ∧ a ≤ qam (c.1 0) ∧ z = -2 ∧ u = (layM Km tx ty td dr bg ss pa kn im kp ns nd ap la hh tt)) ∨ ((1 ≤ a ∧ a ≤ 99) ∧ qam (c.1 0) < a ∧ ∃ (p2 : Int → Int) (k2 : Int) (s2 : Int → Int), keepR pa ss kn p2 k2 ∧ z = a ∧ mR td s2 (cookV (c.1 0) a) ∧ u = (layM Km tx ty td dr bg s2 p2 k2 im kp ns nd ap la hh tt))) z2 w2) : z1 = z2 ∧ jRel Kc Km w1 w2 := by
  rcases h1 with ⟨a1, rfl, rfl⟩ | ⟨a1, a2, rfl, rfl⟩ | ⟨a1, a2, g, m, hp, rfl, rfl⟩ <;> rcases h2 with ⟨b1, rfl, rfl⟩ | ⟨b1, b2, rfl, rfl⟩ | ⟨b1, b2, p2, k2, s2, hk, rfl, hm, rfl⟩
  · exact ⟨rfl, jRel_i h⟩
  · exfalso; omega
  · exfalso; omega
  · exfalso; omega
  · exact ⟨rfl, jRel_i h⟩
  · exfalso; omega
  · exfalso; omega
  · exfalso; omega
  · exact ⟨rfl, jRel_i (sim_put h hp hk hm (okV_cookV (jR_v h) (by omega) a1.2))⟩
set_option maxHeartbeats 1000000 in
theorem op_cool {Kc Km : zK} {c : CS} {tx : Int → Int} {ty : Int} {td dr bg ss pa : Int → Int} {kn : Int} {im : Int → Int} {kp : Int} {ns : Int → Int} {nd ap la : Int} {hh tt : Int → Int} (h : jR c tx ty td ss pa kn im kp ns nd) {z1 z2 : Int} {w1 w2 : zE} (h1 : (fun (z : Int) (u : zE) => (qhe (c.1 0) ≤ 0 ∧ z = -2 ∧ u = (layC Kc c)) ∨ (0 < qhe (c.1 0) ∧ ∃ (g : Int → Nat) (m : Int), putR c g m ∧ z = qhe (waitV (c.1 0)) ∧ u = layC Kc (wS (putC c g m) 0 (waitV (c.1 0))))) z1 w1) (h2 : (fun (z : Int) (u : zE) => (qhe (c.1 0) ≤ 0 ∧ z = -2 ∧ u = (layM Km tx ty td dr bg ss pa kn im kp ns nd ap la hh tt)) ∨ (0 < qhe (c.1 0) ∧ ∃ (p2 : Int → Int) (k2 : Int) (s2 : Int → Int), keepR pa ss kn p2 k2 ∧ z = qhe (waitV (c.1 0)) ∧ mR td s2 (waitV (c.1 0)) ∧ u = (layM Km tx ty td dr bg s2 p2 k2 im kp ns nd ap la hh tt))) z2 w2) : z1 = z2 ∧ jRel Kc Km w1 w2 := by
  rcases h1 with ⟨a1, rfl, rfl⟩ | ⟨a1, g, m, hp, rfl, rfl⟩
  · rcases h2 with ⟨b1, rfl, rfl⟩ | ⟨b1, p2, k2, s2, hk, rfl, hm, rfl⟩
    · exact ⟨rfl, jRel_i h⟩
    · first | exact absurd b1 a1 | exact absurd a1 b1 | (exfalso; omega)
  · rcases h2 with ⟨b1, rfl, rfl⟩ | ⟨b1, p2, k2, s2, hk, rfl, hm, rfl⟩
    · first | exact absurd b1 a1 | exact absurd a1 b1 | (exfalso; omega)
    · exact ⟨rfl, jRel_i (sim_put h hp hk hm (okV_waitV (jR_v h)))⟩
set_option maxHeartbeats 1000000 in
theorem op_trade {Kc Km : zK} {c : CS} {tx : Int → Int} {ty : Int} {td dr bg ss pa : Int → Int} {kn : Int} {im : Int → Int} {kp : Int} {ns : Int → Int} {nd ap la : Int} {hh tt : Int → Int} (h : jR c tx ty td ss pa kn im kp ns nd) {i k : Int} {z1 z2 : Int} {w1 w2 : zE} (h1 : (fun (z : Int) (u : zE) => (¬ ((0 ≤ i ∧ i < qn (c.1 0)) ∧ (0 ≤ k ∧ k < qn (c.1 0)) ∧ i ≠ k) ∧ z = -1 ∧ u = (layC Kc c)) ∨ (((0 ≤ i ∧ i < qn (c.1 0)) ∧ (0 ≤ k ∧ k < qn (c.1 0)) ∧ i ≠ k) ∧ ∃ (g : Int → Nat) (m : Int), putR c g m ∧ z = qsp (exchV (c.1 0) i k) i ∧ u = layC Kc (wS (putC c g m) 0 (exchV (c.1 0) i k)))) z1 w1) (h2 : (fun (z : Int) (u : zE) => (¬ ((0 ≤ i ∧ i < qn (c.1 0)) ∧ (0 ≤ k ∧ k < qn (c.1 0)) ∧ i ≠ k) ∧ z = -1 ∧ u = (layM Km tx ty td dr bg ss pa kn im kp ns nd ap la hh tt)) ∨ (((0 ≤ i ∧ i < qn (c.1 0)) ∧ (0 ≤ k ∧ k < qn (c.1 0)) ∧ i ≠ k) ∧ ∃ (p2 : Int → Int) (k2 : Int) (s2 : Int → Int), keepR pa ss kn p2 k2 ∧ z = qsp (exchV (c.1 0) i k) i ∧ mR td s2 (exchV (c.1 0) i k) ∧ u = (layM Km tx ty td dr bg s2 p2 k2 im kp ns nd ap la hh tt))) z2 w2) : z1 = z2 ∧ jRel Kc Km w1 w2 := by
  rcases h1 with ⟨a1, rfl, rfl⟩ | ⟨a1, g, m, hp, rfl, rfl⟩
  · rcases h2 with ⟨b1, rfl, rfl⟩ | ⟨b1, p2, k2, s2, hk, rfl, hm, rfl⟩
    · exact ⟨rfl, jRel_i h⟩
    · first | exact absurd b1 a1 | exact absurd a1 b1 | (exfalso; omega)
  · rcases h2 with ⟨b1, rfl, rfl⟩ | ⟨b1, p2, k2, s2, hk, rfl, hm, rfl⟩
    · first | exact absurd b1 a1 | exact absurd a1 b1 | (exfalso; omega)
    · exact ⟨rfl, jRel_i (sim_put h hp hk hm (okV_exchV (jR_v h) a1.1.1 a1.1.2 a1.2.1.1 a1.2.1.2))⟩
set_option maxHeartbeats 1000000 in
theorem op_fast {Kc Km : zK} {c : CS} {tx : Int → Int} {ty : Int} {td dr bg ss pa : Int → Int} {kn : Int} {im : Int → Int} {kp : Int} {ns : Int → Int} {nd ap la : Int} {hh tt : Int → Int} (h : jR c tx ty td ss pa kn im kp ns nd) {z1 z2 : Int} {w1 w2 : zE} (h1 : (fun (z : Int) (u : zE) => ∃ (g : Int → Nat) (m : Int), putR c g m ∧ z = sumI (qhu (fastV (c.1 0))) (qn (c.1 0)).toNat ∧ u = layC Kc (wS (putC c g m) 0 (fastV (c.1 0)))) z1 w1) (h2 : (fun (z : Int) (u : zE) => ∃ (p2 : Int → Int) (k2 : Int) (s2 : Int → Int), keepR pa ss kn p2 k2 ∧ z = sumI (qhu (fastV (c.1 0))) (qn (c.1 0)).toNat ∧ mR td s2 (fastV (c.1 0)) ∧ u = (layM Km tx ty td dr bg s2 p2 k2 im kp ns nd ap la hh tt)) z2 w2) : z1 = z2 ∧ jRel Kc Km w1 w2 := by
  rcases h1 with ⟨g, m, hp, rfl, rfl⟩
  rcases h2 with ⟨p2, k2, s2, hk, rfl, hm, rfl⟩
  exact ⟨rfl, jRel_i (sim_put h hp hk hm (okV_fastV (jR_v h)))⟩
set_option maxHeartbeats 1000000 in
theorem op_undo {Kc Km : zK} {c : CS} {tx : Int → Int} {ty : Int} {td dr bg ss pa : Int → Int} {kn : Int} {im : Int → Int} {kp : Int} {ns : Int → Int} {nd ap la : Int} {hh tt : Int → Int} (h : jR c tx ty td ss pa kn im kp ns nd) {z1 z2 : Int} {w1 w2 : zE} (h1 : (fun (z : Int) (u : zE) => (1 ≤ c.2.2.2.2.1.2 ∧ z = c.2.2.2.2.1.2 - 1 ∧ u = layC Kc (wU (wS c 0 (cpV (c.1 (c.2.2.2.2.1.1 (c.2.2.2.2.1.2 - 1))) (c.1 0))) (c.2.2.2.2.1.1, c.2.2.2.2.1.2 - 1))) ∨ (¬ 1 ≤ c.2.2.2.2.1.2 ∧ z = -2 ∧ u = (layC Kc c))) z1 w1) (h2 : (fun (z : Int) (u : zE) => (kn = 0 ∧ z = -2 ∧ u = (layM Km tx ty td dr bg ss pa kn im kp ns nd ap la hh tt)) ∨ (1 ≤ kn ∧ z = kn - 1 ∧ ∃ s2 : Int → Int, (∀ y : Int, 0 ≤ y → y < 31 → s2 y = pa (31 * (kn - 1) + y)) ∧ u = (layM Km tx ty td dr bg s2 pa (kn - 1) im kp ns nd ap la hh tt))) z2 w2) : z1 = z2 ∧ jRel Kc Km w1 w2 := by
  have e := h.2.2.2.1.1
  have hb := jR_kn h
  rcases h1 with ⟨a1, rfl, rfl⟩ | ⟨a1, rfl, rfl⟩
  · rcases h2 with ⟨b1, rfl, rfl⟩ | ⟨b1, rfl, s2, hs, rfl⟩
    · exfalso; omega
    · exact ⟨by omega, jRel_i (sim_undo h b1 hs)⟩
  · rcases h2 with ⟨b1, rfl, rfl⟩ | ⟨b1, rfl, s2, hs, rfl⟩
    · exact ⟨rfl, jRel_i h⟩
    · exfalso; omega
set_option maxHeartbeats 1000000 in
theorem op_passes {Kc Km : zK} {c : CS} {tx : Int → Int} {ty : Int} {td dr bg ss pa : Int → Int} {kn : Int} {im : Int → Int} {kp : Int} {ns : Int → Int} {nd ap la : Int} {hh tt : Int → Int} (h : jR c tx ty td ss pa kn im kp ns nd) {z1 z2 : Int} {w1 w2 : zE} (h1 : (fun (z : Int) (u : zE) => untilP (c.1 0) z ∧ ∃ d : CS, eqS c d ∧ u = layC Kc d) z1 w1) (h2 : (fun (z : Int) (u : zE) => untilP (c.1 0) z ∧ ∃ (s2 h2 t2 : Int → Int) (w2 : Int), mR td s2 (c.1 0) ∧ u = (layM Km tx ty td dr bg s2 pa kn im kp ns nd ap w2 h2 t2)) z2 w2) : z1 = z2 ∧ jRel Kc Km w1 w2 := by
  rcases h1 with ⟨a1, d, hd, rfl⟩
  rcases h2 with ⟨b1, s2, h9, t2, l2, hm, rfl⟩
  exact ⟨untilP_det a1 b1, jRel_i (sim_q h hd hm)⟩
set_option maxHeartbeats 1000000 in
theorem op_left {Kc Km : zK} {c : CS} {tx : Int → Int} {ty : Int} {td dr bg ss pa : Int → Int} {kn : Int} {im : Int → Int} {kp : Int} {ns : Int → Int} {nd ap la : Int} {hh tt : Int → Int} (h : jR c tx ty td ss pa kn im kp ns nd) {n : Int} {z1 z2 : Int} {w1 w2 : zE} (h1 : (fun (z : Int) (u : zE) => ((n < 0 ∨ 20 < n) ∧ z = -1 ∧ u = (layC Kc c)) ∨ ((0 ≤ n ∧ n ≤ 20) ∧ z = qam (roundsV (c.1 0) n.toNat).1 ∧ ∃ d : CS, eqS c d ∧ u = layC Kc d)) z1 w1) (h2 : (fun (z : Int) (u : zE) => ((n < 0 ∨ 20 < n) ∧ z = -1 ∧ u = (layM Km tx ty td dr bg ss pa kn im kp ns nd ap la hh tt)) ∨ ((0 ≤ n ∧ n ≤ 20) ∧ z = qam (roundsV (c.1 0) n.toNat).1 ∧ ∃ (s2 h2 t2 : Int → Int) (w2 : Int), mR td s2 (c.1 0) ∧ u = (layM Km tx ty td dr bg s2 pa kn im kp ns nd ap w2 h2 t2))) z2 w2) : z1 = z2 ∧ jRel Kc Km w1 w2 := by
  rcases h1 with ⟨a1, rfl, rfl⟩ | ⟨a1, rfl, d, hd, rfl⟩
  · rcases h2 with ⟨b1, rfl, rfl⟩ | ⟨b1, rfl, s2, h9, t2, l2, hm, rfl⟩
    · exact ⟨rfl, jRel_i h⟩
    · first | exact absurd b1 a1 | exact absurd a1 b1 | (exfalso; omega)
  · rcases h2 with ⟨b1, rfl, rfl⟩ | ⟨b1, rfl, s2, h9, t2, l2, hm, rfl⟩
    · first | exact absurd b1 a1 | exact absurd a1 b1 | (exfalso; omega)
    · exact ⟨rfl, jRel_i (sim_q h hd hm)⟩
set_option maxHeartbeats 1000000 in
theorem op_scraper {Kc Km : zK} {c : CS} {tx : Int → Int} {ty : Int} {td dr bg ss pa : Int → Int} {kn : Int} {im : Int → Int} {kp : Int} {ns : Int → Int} {nd ap la : Int} {hh tt : Int → Int} (h : jR c tx ty td ss pa kn im kp ns nd) {z1 z2 : Int} {w1 w2 : zE} (h1 : (fun (z : Int) (u : zE) => z = (roundsV (c.1 0) (qro (c.1 0)).toNat).2 ∧ ∃ d : CS, eqS c d ∧ u = layC Kc d) z1 w1) (h2 : (fun (z : Int) (u : zE) => z = (roundsV (c.1 0) (qro (c.1 0)).toNat).2 ∧ ∃ (s2 h2 t2 : Int → Int) (w2 : Int), mR td s2 (c.1 0) ∧ u = (layM Km tx ty td dr bg s2 pa kn im kp ns nd ap w2 h2 t2)) z2 w2) : z1 = z2 ∧ jRel Kc Km w1 w2 := by
  rcases h1 with ⟨rfl, d, hd, rfl⟩
  rcases h2 with ⟨rfl, s2, h9, t2, l2, hm, rfl⟩
  exact ⟨rfl, jRel_i (sim_q h hd hm)⟩
set_option maxHeartbeats 1000000 in
theorem op_spoil {Kc Km : zK} {c : CS} {tx : Int → Int} {ty : Int} {td dr bg ss pa : Int → Int} {kn : Int} {im : Int → Int} {kp : Int} {ns : Int → Int} {nd ap la : Int} {hh tt : Int → Int} (h : jR c tx ty td ss pa kn im kp ns nd) {z1 z2 : Int} {w1 w2 : zE} (h1 : (fun (z : Int) (u : zE) => spoilP (c.1 0) z ∧ ∃ d : CS, eqS c d ∧ u = layC Kc d) z1 w1) (h2 : (fun (z : Int) (u : zE) => spoilP (c.1 0) z ∧ ∃ (s2 h2 t2 : Int → Int) (w2 : Int), mR td s2 (c.1 0) ∧ u = (layM Km tx ty td dr bg s2 pa kn im kp ns nd ap w2 h2 t2)) z2 w2) : z1 = z2 ∧ jRel Kc Km w1 w2 := by
  rcases h1 with ⟨a1, d, hd, rfl⟩
  rcases h2 with ⟨b1, s2, h9, t2, l2, hm, rfl⟩
  exact ⟨spoilP_det a1 b1, jRel_i (sim_q h hd hm)⟩
set_option maxHeartbeats 1000000 in
theorem op_waits {Kc Km : zK} {c : CS} {tx : Int → Int} {ty : Int} {td dr bg ss pa : Int → Int} {kn : Int} {im : Int → Int} {kp : Int} {ns : Int → Int} {nd ap la : Int} {hh tt : Int → Int} (h : jR c tx ty td ss pa kn im kp ns nd) {z1 z2 : Int} {w1 w2 : zE} (h1 : (fun (z : Int) (u : zE) => waitsP (c.1 0) z ∧ ∃ d : CS, eqS c d ∧ u = layC Kc d) z1 w1) (h2 : (fun (z : Int) (u : zE) => waitsP (c.1 0) z ∧ ∃ (s2 h2 t2 : Int → Int) (w2 : Int), mR td s2 (c.1 0) ∧ u = (layM Km tx ty td dr bg s2 pa kn im kp ns nd ap w2 h2 t2)) z2 w2) : z1 = z2 ∧ jRel Kc Km w1 w2 := by
  rcases h1 with ⟨a1, d, hd, rfl⟩
  rcases h2 with ⟨b1, s2, h9, t2, l2, hm, rfl⟩
  exact ⟨waitsP_det a1 b1, jRel_i (sim_q h hd hm)⟩
set_option maxHeartbeats 1000000 in
theorem op_most {Kc Km : zK} {c : CS} {tx : Int → Int} {ty : Int} {td dr bg ss pa : Int → Int} {kn : Int} {im : Int → Int} {kp : Int} {ns : Int → Int} {nd ap la : Int} {hh tt : Int → Int} (h : jR c tx ty td ss pa kn im kp ns nd) {z1 z2 : Int} {w1 w2 : zE} (h1 : (fun (z : Int) (u : zE) => z = min 99 (reachA (c.1 0) (qn (c.1 0)).toNat) ∧ ∃ d : CS, eqS c d ∧ u = layC Kc d) z1 w1) (h2 : (fun (z : Int) (u : zE) => z = min 99 (reachA (c.1 0) (qn (c.1 0)).toNat) ∧ ∃ (s2 h2 t2 : Int → Int) (w2 : Int), mR td s2 (c.1 0) ∧ u = (layM Km tx ty td dr bg s2 pa kn im kp ns nd ap w2 h2 t2)) z2 w2) : z1 = z2 ∧ jRel Kc Km w1 w2 := by
  rcases h1 with ⟨rfl, d, hd, rfl⟩
  rcases h2 with ⟨rfl, s2, h9, t2, l2, hm, rfl⟩
  exact ⟨rfl, jRel_i (sim_q h hd hm)⟩
set_option maxHeartbeats 1000000 in
theorem op_fasts {Kc Km : zK} {c : CS} {tx : Int → Int} {ty : Int} {td dr bg ss pa : Int → Int} {kn : Int} {im : Int → Int} {kp : Int} {ns : Int → Int} {nd ap la : Int} {hh tt : Int → Int} (h : jR c tx ty td ss pa kn im kp ns nd) {z1 z2 : Int} {w1 w2 : zE} (h1 : (fun (z : Int) (u : zE) => fastsP (c.1 0) z ∧ ∃ d : CS, eqS c d ∧ u = layC Kc d) z1 w1) (h2 : (fun (z : Int) (u : zE) => fastsP (c.1 0) z ∧ ∃ (s2 h2 t2 : Int → Int) (w2 : Int), mR td s2 (c.1 0) ∧ u = (layM Km tx ty td dr bg s2 pa kn im kp ns nd ap w2 h2 t2)) z2 w2) : z1 = z2 ∧ jRel Kc Km w1 w2 := by
  rcases h1 with ⟨a1, d, hd, rfl⟩
  rcases h2 with ⟨b1, s2, h9, t2, l2, hm, rfl⟩
  exact ⟨fastsP_det a1 b1, jRel_i (sim_q h hd hm)⟩
set_option maxHeartbeats 1000000 in
theorem op_cabal {Kc Km : zK} {c : CS} {tx : Int → Int} {ty : Int} {td dr bg ss pa : Int → Int} {kn : Int} {im : Int → Int} {kp : Int} {ns : Int → Int} {nd ap la : Int} {hh tt : Int → Int} (h : jR c tx ty td ss pa kn im kp ns nd) {w : Int} {z1 z2 : Int} {w1 w2 : zE} (h1 : (fun (z : Int) (u : zE) => ((w < 0 ∨ 1 < w) ∧ z = -1 ∧ u = (layC Kc c)) ∨ ((0 ≤ w ∧ w ≤ 1) ∧ z = cabI (c.1 0) w ∧ ∃ d : CS, eqS c d ∧ u = layC Kc d)) z1 w1) (h2 : (fun (z : Int) (u : zE) => ((w < 0 ∨ 1 < w) ∧ z = -1 ∧ u = (layM Km tx ty td dr bg ss pa kn im kp ns nd ap la hh tt)) ∨ ((0 ≤ w ∧ w ≤ 1) ∧ z = cabI (c.1 0) w ∧ ∃ (s2 h2 t2 : Int → Int) (w2 : Int), mR td s2 (c.1 0) ∧ u = (layM Km tx ty td dr bg s2 pa kn im kp ns nd ap w2 h2 t2))) z2 w2) : z1 = z2 ∧ jRel Kc Km w1 w2 := by
  rcases h1 with ⟨a1, rfl, rfl⟩ | ⟨a1, rfl, d, hd, rfl⟩
  · rcases h2 with ⟨b1, rfl, rfl⟩ | ⟨b1, rfl, s2, h9, t2, l2, hm, rfl⟩
    · exact ⟨rfl, jRel_i h⟩
    · first | exact absurd b1 a1 | exact absurd a1 b1 | (exfalso; omega)
  · rcases h2 with ⟨b1, rfl, rfl⟩ | ⟨b1, rfl, s2, h9, t2, l2, hm, rfl⟩
    · first | exact absurd b1 a1 | exact absurd a1 b1 | (exfalso; omega)
    · exact ⟨rfl, jRel_i (sim_q h hd hm)⟩
set_option maxHeartbeats 1000000 in
theorem op_trades {Kc Km : zK} {c : CS} {tx : Int → Int} {ty : Int} {td dr bg ss pa : Int → Int} {kn : Int} {im : Int → Int} {kp : Int} {ns : Int → Int} {nd ap la : Int} {hh tt : Int → Int} (h : jR c tx ty td ss pa kn im kp ns nd) {z1 z2 : Int} {w1 w2 : zE} (h1 : (fun (z : Int) (u : zE) => tradeP (c.1 0) z ∧ ∃ d : CS, eqS c d ∧ u = layC Kc d) z1 w1) (h2 : (fun (z : Int) (u : zE) => tradeP (c.1 0) z ∧ ∃ (s2 h2 t2 : Int → Int) (w2 : Int), mR td s2 (c.1 0) ∧ u = (layM Km tx ty td dr bg s2 pa kn im kp ns nd ap w2 h2 t2)) z2 w2) : z1 = z2 ∧ jRel Kc Km w1 w2 := by
  rcases h1 with ⟨a1, d, hd, rfl⟩
  rcases h2 with ⟨b1, s2, h9, t2, l2, hm, rfl⟩
  exact ⟨tradeP_det a1 b1, jRel_i (sim_q h hd hm)⟩
set_option maxHeartbeats 1000000 in
theorem op_power {Kc Km : zK} {c : CS} {tx : Int → Int} {ty : Int} {td dr bg ss pa : Int → Int} {kn : Int} {im : Int → Int} {kp : Int} {ns : Int → Int} {nd ap la : Int} {hh tt : Int → Int} (h : jR c tx ty td ss pa kn im kp ns nd) {i p : Int} {z1 z2 : Int} {w1 w2 : zE} (h1 : (fun (z : Int) (u : zE) => (¬ ((0 ≤ i ∧ i < qn (c.1 0)) ∧ 0 ≤ p ∧ p ≤ 1) ∧ z = -1 ∧ u = (layC Kc c)) ∨ (((0 ≤ i ∧ i < qn (c.1 0)) ∧ 0 ≤ p ∧ p ≤ 1) ∧ z = lowT (decN (letsV (c.1 0)) (qn (c.1 0)).toNat i.toNat (2 ^ (qn (c.1 0)).toNat)) (facN (qn (c.1 0)).toNat) p ∧ ∃ d : CS, eqS c d ∧ u = layC Kc d)) z1 w1) (h2 : (fun (z : Int) (u : zE) => (¬ ((0 ≤ i ∧ i < qn (c.1 0)) ∧ 0 ≤ p ∧ p ≤ 1) ∧ z = -1 ∧ u = (layM Km tx ty td dr bg ss pa kn im kp ns nd ap la hh tt)) ∨ (((0 ≤ i ∧ i < qn (c.1 0)) ∧ 0 ≤ p ∧ p ≤ 1) ∧ z = lowT (decN (letsV (c.1 0)) (qn (c.1 0)).toNat i.toNat (2 ^ (qn (c.1 0)).toNat)) (facN (qn (c.1 0)).toNat) p ∧ ∃ (s2 h2 t2 : Int → Int) (w2 : Int), mR td s2 (c.1 0) ∧ u = (layM Km tx ty td dr bg s2 pa kn im kp ns nd ap w2 h2 t2))) z2 w2) : z1 = z2 ∧ jRel Kc Km w1 w2 := by
  rcases h1 with ⟨a1, rfl, rfl⟩ | ⟨a1, rfl, d, hd, rfl⟩
  · rcases h2 with ⟨b1, rfl, rfl⟩ | ⟨b1, rfl, s2, h9, t2, l2, hm, rfl⟩
    · exact ⟨rfl, jRel_i h⟩
    · first | exact absurd b1 a1 | exact absurd a1 b1 | (exfalso; omega)
  · rcases h2 with ⟨b1, rfl, rfl⟩ | ⟨b1, rfl, s2, h9, t2, l2, hm, rfl⟩
    · first | exact absurd b1 a1 | exact absurd a1 b1 | (exfalso; omega)
    · exact ⟨rfl, jRel_i (sim_q h hd hm)⟩
set_option maxHeartbeats 1000000 in
theorem op_seen {Kc Km : zK} {c : CS} {tx : Int → Int} {ty : Int} {td dr bg ss pa : Int → Int} {kn : Int} {im : Int → Int} {kp : Int} {ns : Int → Int} {nd ap la : Int} {hh tt : Int → Int} (h : jR c tx ty td ss pa kn im kp ns nd) {i n : Int} {z1 z2 : Int} {w1 w2 : zE} (h1 : (fun (z : Int) (u : zE) => (¬ ((0 ≤ i ∧ i < qn (c.1 0)) ∧ 0 ≤ n ∧ n ≤ 18) ∧ z = -1 ∧ u = (layC Kc c)) ∨ (((0 ≤ i ∧ i < qn (c.1 0)) ∧ 0 ≤ n ∧ n ≤ 18) ∧ c.2.2.2.1.2.2 ≤ 5 ∧ z = c.2.2.2.1.2.2 + 1 ∧ u = layC Kc (wV c (uI c.2.2.2.1.1 c.2.2.2.1.2.2 i, uI c.2.2.2.1.2.1 c.2.2.2.1.2.2 n, c.2.2.2.1.2.2 + 1))) ∨ (((0 ≤ i ∧ i < qn (c.1 0)) ∧ 0 ≤ n ∧ n ≤ 18) ∧ ¬ c.2.2.2.1.2.2 ≤ 5 ∧ z = -3 ∧ u = (layC Kc c))) z1 w1) (h2 : (fun (z : Int) (u : zE) => (¬ ((0 ≤ i ∧ i < qn (c.1 0)) ∧ 0 ≤ n ∧ n ≤ 18) ∧ z = -1 ∧ u = (layM Km tx ty td dr bg ss pa kn im kp ns nd ap la hh tt)) ∨ (((0 ≤ i ∧ i < qn (c.1 0)) ∧ 0 ≤ n ∧ n ≤ 18) ∧ nd ≤ 5 ∧ z = nd + 1 ∧ u = (layM Km tx ty td dr bg ss pa kn im kp (uI ns nd (20 * i + n)) (nd + 1) ap la hh tt)) ∨ (((0 ≤ i ∧ i < qn (c.1 0)) ∧ 0 ≤ n ∧ n ≤ 18) ∧ ¬ nd ≤ 5 ∧ z = -3 ∧ u = (layM Km tx ty td dr bg ss pa kn im kp ns nd ap la hh tt))) z2 w2) : z1 = z2 ∧ jRel Kc Km w1 w2 := by
  have e := h.2.2.2.2.2.1
  rcases h1 with ⟨a1, rfl, rfl⟩ | ⟨a1, a2, rfl, rfl⟩ | ⟨a1, a2, rfl, rfl⟩ <;> rcases h2 with ⟨b1, rfl, rfl⟩ | ⟨b1, b2, rfl, rfl⟩ | ⟨b1, b2, rfl, rfl⟩
  · exact ⟨rfl, jRel_i h⟩
  · exfalso; omega
  · exfalso; omega
  · exfalso; omega
  · exact ⟨by omega, jRel_i (sim_seen h a1.1 a1.2 b2)⟩
  · exfalso; omega
  · exfalso; omega
  · exfalso; omega
  · exact ⟨rfl, jRel_i h⟩
set_option maxHeartbeats 1000000 in
theorem op_forget {Kc Km : zK} {c : CS} {tx : Int → Int} {ty : Int} {td dr bg ss pa : Int → Int} {kn : Int} {im : Int → Int} {kp : Int} {ns : Int → Int} {nd ap la : Int} {hh tt : Int → Int} (h : jR c tx ty td ss pa kn im kp ns nd) {z1 z2 : Int} {w1 w2 : zE} (h1 : (fun (z : Int) (u : zE) => z = c.2.2.2.1.2.2 ∧ u = layC Kc (wV c (c.2.2.2.1.1, c.2.2.2.1.2.1, 0))) z1 w1) (h2 : (fun (z : Int) (u : zE) => z = nd ∧ u = (layM Km tx ty td dr bg ss pa kn im kp ns 0 ap la hh tt)) z2 w2) : z1 = z2 ∧ jRel Kc Km w1 w2 := by
  have e := h.2.2.2.2.2.1
  obtain ⟨rfl, rfl⟩ := h1
  obtain ⟨rfl, rfl⟩ := h2
  exact ⟨e.symm, jRel_i (sim_forget h)⟩
set_option maxHeartbeats 1000000 in
theorem op_may {Kc Km : zK} {c : CS} {tx : Int → Int} {ty : Int} {td dr bg ss pa : Int → Int} {kn : Int} {im : Int → Int} {kp : Int} {ns : Int → Int} {nd ap la : Int} {hh tt : Int → Int} (h : jR c tx ty td ss pa kn im kp ns nd) {w : Int} {z1 z2 : Int} {w1 w2 : zE} (h1 : (fun (z : Int) (u : zE) => ((w < 0 ∨ 1 < w) ∧ z = -1 ∧ u = (layC Kc c)) ∨ ((0 ≤ w ∧ w ≤ 1) ∧ z = ((mayN (c.1 0) c.2.2.2.1.1 c.2.2.2.1.2.1 c.2.2.2.1.2.2.toNat w 10 : Nat) : Int) ∧ ∃ d : CS, eqS c d ∧ u = layC Kc d)) z1 w1) (h2 : (fun (z : Int) (u : zE) => ((w < 0 ∨ 1 < w) ∧ z = -1 ∧ u = (layM Km tx ty td dr bg ss pa kn im kp ns nd ap la hh tt)) ∨ ((0 ≤ w ∧ w ≤ 1) ∧ z = ((mayN (c.1 0) (whR ns) (muR ns) nd.toNat w 10 : Nat) : Int) ∧ ∃ (s2 h2 t2 : Int → Int) (w2 : Int), mR td s2 (c.1 0) ∧ u = (layM Km tx ty td dr bg s2 pa kn im kp ns nd ap w2 h2 t2))) z2 w2) : z1 = z2 ∧ jRel Kc Km w1 w2 := by
  rcases h1 with ⟨a1, rfl, rfl⟩ | ⟨a1, rfl, d, hd, rfl⟩
  · rcases h2 with ⟨b1, rfl, rfl⟩ | ⟨b1, rfl, s2, h9, t2, l2, hm, rfl⟩
    · exact ⟨rfl, jRel_i h⟩
    · first | exact absurd b1 a1 | exact absurd a1 b1 | (exfalso; omega)
  · rcases h2 with ⟨b1, rfl, rfl⟩ | ⟨b1, rfl, s2, h9, t2, l2, hm, rfl⟩
    · first | exact absurd b1 a1 | exact absurd a1 b1 | (exfalso; omega)
    · refine ⟨?_, jRel_i (sim_q h hd hm)⟩
      have hns := jR_ns h
      have ho := h.1.2.2.2.1
      obtain ⟨n1, n2⟩ := h.2.2.2.2.2
      rw [← n1] at ho ⊢
      congr 1
      refine mayN_c _ (fun i i0 i1 => ?_) 10
      have i1 : i < nd := by have := hns.1; omega
      have h5 := n2 i i0 i1
      have h6 := ho.2 i i0 i1
      unfold whR muR
      omega
set_option maxHeartbeats 1000000 in
theorem op_likely {Kc Km : zK} {c : CS} {tx : Int → Int} {ty : Int} {td dr bg ss pa : Int → Int} {kn : Int} {im : Int → Int} {kp : Int} {ns : Int → Int} {nd ap la : Int} {hh tt : Int → Int} (h : jR c tx ty td ss pa kn im kp ns nd) {x p : Int} {z1 z2 : Int} {w1 w2 : zE} (h1 : (fun (z : Int) (u : zE) => (¬ ((0 ≤ x ∧ x ≤ 10) ∧ 0 ≤ p ∧ p ≤ 1) ∧ z = -1 ∧ u = (layC Kc c)) ∨ (((0 ≤ x ∧ x ≤ 10) ∧ 0 ≤ p ∧ p ≤ 1) ∧ z = lowT (likN (letsV (c.1 0)) x (qn (c.1 0)).toNat (2 ^ (qn (c.1 0)).toNat)) (tenN (qn (c.1 0)).toNat) p ∧ ∃ d : CS, eqS c d ∧ u = layC Kc d)) z1 w1) (h2 : (fun (z : Int) (u : zE) => (¬ ((0 ≤ x ∧ x ≤ 10) ∧ 0 ≤ p ∧ p ≤ 1) ∧ z = -1 ∧ u = (layM Km tx ty td dr bg ss pa kn im kp ns nd ap la hh tt)) ∨ (((0 ≤ x ∧ x ≤ 10) ∧ 0 ≤ p ∧ p ≤ 1) ∧ z = lowT (likN (letsV (c.1 0)) x (qn (c.1 0)).toNat (2 ^ (qn (c.1 0)).toNat)) (tenN (qn (c.1 0)).toNat) p ∧ ∃ (s2 h2 t2 : Int → Int) (w2 : Int), mR td s2 (c.1 0) ∧ u = (layM Km tx ty td dr bg s2 pa kn im kp ns nd ap w2 h2 t2))) z2 w2) : z1 = z2 ∧ jRel Kc Km w1 w2 := by
  rcases h1 with ⟨a1, rfl, rfl⟩ | ⟨a1, rfl, d, hd, rfl⟩
  · rcases h2 with ⟨b1, rfl, rfl⟩ | ⟨b1, rfl, s2, h9, t2, l2, hm, rfl⟩
    · exact ⟨rfl, jRel_i h⟩
    · first | exact absurd b1 a1 | exact absurd a1 b1 | (exfalso; omega)
  · rcases h2 with ⟨b1, rfl, rfl⟩ | ⟨b1, rfl, s2, h9, t2, l2, hm, rfl⟩
    · first | exact absurd b1 a1 | exact absurd a1 b1 | (exfalso; omega)
    · exact ⟨rfl, jRel_i (sim_q h hd hm)⟩
set_option maxHeartbeats 1000000 in
theorem op_century {Kc Km : zK} {c : CS} {tx : Int → Int} {ty : Int} {td dr bg ss pa : Int → Int} {kn : Int} {im : Int → Int} {kp : Int} {ns : Int → Int} {nd ap la : Int} {hh tt : Int → Int} (h : jR c tx ty td ss pa kn im kp ns nd) {zz n w : Int} {z1 z2 : Int} {w1 w2 : zE} (h1 : (fun (z : Int) (u : zE) => (¬ ((0 ≤ zz ∧ zz ≤ 9999) ∧ (1 ≤ n ∧ n ≤ 40) ∧ 0 ≤ w ∧ w ≤ 1) ∧ z = -1 ∧ u = (layC Kc c)) ∨ (((0 ≤ zz ∧ zz ≤ 9999) ∧ (1 ≤ n ∧ n ≤ 40) ∧ 0 ≤ w ∧ w ≤ 1) ∧ z = cenI (c.1 0) zz n w ∧ ∃ d : CS, eqS c d ∧ u = layC Kc d)) z1 w1) (h2 : (fun (z : Int) (u : zE) => (¬ ((0 ≤ zz ∧ zz ≤ 9999) ∧ (1 ≤ n ∧ n ≤ 40) ∧ 0 ≤ w ∧ w ≤ 1) ∧ z = -1 ∧ u = (layM Km tx ty td dr bg ss pa kn im kp ns nd ap la hh tt)) ∨ (((0 ≤ zz ∧ zz ≤ 9999) ∧ (1 ≤ n ∧ n ≤ 40) ∧ 0 ≤ w ∧ w ≤ 1) ∧ z = cenI (c.1 0) zz n w ∧ ∃ (s2 h2 t2 : Int → Int) (w2 : Int), mR td s2 (c.1 0) ∧ u = (layM Km tx ty td dr bg s2 pa kn im kp ns nd ap w2 h2 t2))) z2 w2) : z1 = z2 ∧ jRel Kc Km w1 w2 := by
  rcases h1 with ⟨a1, rfl, rfl⟩ | ⟨a1, rfl, d, hd, rfl⟩
  · rcases h2 with ⟨b1, rfl, rfl⟩ | ⟨b1, rfl, s2, h9, t2, l2, hm, rfl⟩
    · exact ⟨rfl, jRel_i h⟩
    · first | exact absurd b1 a1 | exact absurd a1 b1 | (exfalso; omega)
  · rcases h2 with ⟨b1, rfl, rfl⟩ | ⟨b1, rfl, s2, h9, t2, l2, hm, rfl⟩
    · first | exact absurd b1 a1 | exact absurd a1 b1 | (exfalso; omega)
    · exact ⟨rfl, jRel_i (sim_q h hd hm)⟩
set_option maxHeartbeats 1000000 in
theorem op_keep {Kc Km : zK} {c : CS} {tx : Int → Int} {ty : Int} {td dr bg ss pa : Int → Int} {kn : Int} {im : Int → Int} {kp : Int} {ns : Int → Int} {nd ap la : Int} {hh tt : Int → Int} (h : jR c tx ty td ss pa kn im kp ns nd) {z1 z2 : Int} {w1 w2 : zE} (h1 : (fun (z : Int) (u : zE) => (2 ≤ c.2.2.2.2.2.2 ∧ z = -3 ∧ u = (layC Kc c)) ∨ (c.2.2.2.2.2.2 < 2 ∧ z = c.2.2.2.2.2.2 + 1 ∧ u = layC Kc (wP (wS c (c.2.2.2.2.2.1 c.2.2.2.2.2.2) (cpV (c.1 0) (c.1 (c.2.2.2.2.2.1 c.2.2.2.2.2.2)))) (c.2.2.2.2.2.1, c.2.2.2.2.2.2 + 1)))) z1 w1) (h2 : (fun (z : Int) (u : zE) => (2 ≤ kp ∧ z = -3 ∧ u = (layM Km tx ty td dr bg ss pa kn im kp ns nd ap la hh tt)) ∨ (kp < 2 ∧ z = kp + 1 ∧ ∃ i2 : Int → Int, (∀ y : Int, 0 ≤ y → y < 31 → i2 (31 * kp + y) = ss y) ∧ (∀ y : Int, 0 ≤ y → y < 31 * kp → i2 y = im y) ∧ u = (layM Km tx ty td dr bg ss pa kn i2 (kp + 1) ns nd ap la hh tt))) z2 w2) : z1 = z2 ∧ jRel Kc Km w1 w2 := by
  have e := h.2.2.2.2.1.1
  rcases h1 with ⟨a1, rfl, rfl⟩ | ⟨a1, rfl, rfl⟩
  · rcases h2 with ⟨b1, rfl, rfl⟩ | ⟨b1, rfl, i2, hs, ho, rfl⟩
    · exact ⟨rfl, jRel_i h⟩
    · exfalso; omega
  · rcases h2 with ⟨b1, rfl, rfl⟩ | ⟨b1, rfl, i2, hs, ho, rfl⟩
    · exfalso; omega
    · exact ⟨by omega, jRel_i (sim_keep h b1 hs ho)⟩
set_option maxHeartbeats 1000000 in
theorem op_back {Kc Km : zK} {c : CS} {tx : Int → Int} {ty : Int} {td dr bg ss pa : Int → Int} {kn : Int} {im : Int → Int} {kp : Int} {ns : Int → Int} {nd ap la : Int} {hh tt : Int → Int} (h : jR c tx ty td ss pa kn im kp ns nd) {z1 z2 : Int} {w1 w2 : zE} (h1 : (fun (z : Int) (u : zE) => (1 ≤ c.2.2.2.2.2.2 ∧ z = c.2.2.2.2.2.2 - 1 ∧ u = layC Kc (wU (wP (wS c 0 (cpV (c.1 (c.2.2.2.2.2.1 (c.2.2.2.2.2.2 - 1))) (c.1 0))) (c.2.2.2.2.2.1, c.2.2.2.2.2.2 - 1)) (c.2.2.2.2.1.1, 0))) ∨ (¬ 1 ≤ c.2.2.2.2.2.2 ∧ z = -2 ∧ u = (layC Kc c))) z1 w1) (h2 : (fun (z : Int) (u : zE) => (kp = 0 ∧ z = -2 ∧ u = (layM Km tx ty td dr bg ss pa kn im kp ns nd ap la hh tt)) ∨ (1 ≤ kp ∧ z = kp - 1 ∧ ∃ s2 : Int → Int, (∀ y : Int, 0 ≤ y → y < 31 → s2 y = im (31 * (kp - 1) + y)) ∧ u = (layM Km tx ty td dr bg s2 pa 0 im (kp - 1) ns nd ap la hh tt))) z2 w2) : z1 = z2 ∧ jRel Kc Km w1 w2 := by
  have e := h.2.2.2.2.1.1
  have hb := jR_kp h
  rcases h1 with ⟨a1, rfl, rfl⟩ | ⟨a1, rfl, rfl⟩
  · rcases h2 with ⟨b1, rfl, rfl⟩ | ⟨b1, rfl, s2, hs, rfl⟩
    · exfalso; omega
    · exact ⟨by omega, jRel_i (sim_back h b1 hs)⟩
  · rcases h2 with ⟨b1, rfl, rfl⟩ | ⟨b1, rfl, s2, hs, rfl⟩
    · exact ⟨rfl, jRel_i h⟩
    · exfalso; omega
set_option maxHeartbeats 1000000 in
theorem op_count {Kc Km : zK} {c : CS} {tx : Int → Int} {ty : Int} {td dr bg ss pa : Int → Int} {kn : Int} {im : Int → Int} {kp : Int} {ns : Int → Int} {nd ap la : Int} {hh tt : Int → Int} (h : jR c tx ty td ss pa kn im kp ns nd) {w : Int} {z1 z2 : Int} {w1 w2 : zE} (h1 : (fun (z : Int) (u : zE) => z = cntI c w ∧ u = (layC Kc c)) z1 w1) (h2 : (fun (z : Int) (u : zE) => z = cntR (c.1 0) nd kn kp ty w ∧ u = (layM Km tx ty td dr bg ss pa kn im kp ns nd ap la hh tt)) z2 w2) : z1 = z2 ∧ jRel Kc Km w1 w2 := by
  have e1 := h.2.1.1
  have e2 := h.2.2.2.1.1
  have e3 := h.2.2.2.2.1.1
  have e4 := h.2.2.2.2.2.1
  obtain ⟨rfl, rfl⟩ := h1
  obtain ⟨rfl, rfl⟩ := h2
  refine ⟨?_, jRel_i h⟩
  unfold cntI cntR
  rw [e1, e2, e3, e4]
