/-! THE CLASS' OBJECT IS MADE, STAGE BY STAGE: blocks of cells in the order of their making -/
def jbT (K : zK) (b : Nat) : Nat → va_E := fun a => match a with
  | 0 => .inr (4, [.ref (kad K (b + 1)), .ref (kad K (b + 2)), .int (iI 0)])
  | 1 => z0 (kC K) 200
  | _ => z0 (kI K) 4
def jb1 (K : zK) (b : Nat) : Nat → va_E := fun a => match a with
  | 0 => .inr (1, [.ref (kad K (b + 1)), .int (iI 0), .int (iI 0)])
  | _ => z0 (kI K) 7
def jb2 (K : zK) (b : Nat) : Nat → va_E := fun a => match a with
  | 0 => .inr (2, [.ref (kad K (b + 1)), .ref (kad K (b + 2)), .int (iI 0)])
  | _ => z0 (kI K) 6
def jb0 (m : Nat) (K : zK) (b : Nat) : Nat → va_E := fun a => match a with
  | 0 => .inr (0, [.ref (kad K (b + 1)), .int (iI 0)])
  | 1 => .inl (kS K, m, .inr (.inr (.inr (.inr (fun q => if q < m then some (kad K (b + 2 + 6 * q)) else none)))))
  | a + 2 => jsit K (b + 2 + 6 * (a / 6)) (a % 6)
abbrev jB : Type := zK → Nat → Nat → va_E
def gOK (n : Nat) (g : jB) : Prop := ∀ (K K2 : zK) (b : Nat), kI K = kI K2 → kC K = kC K2 → kS K = kS K2 → (∀ i : Nat, i < n → kad K (b + i) = kad K2 (b + i)) → ∀ a : Nat, a < n → g K b a = g K2 b a
theorem gOK_T : gOK 3 jbT := by
  intro K K2 b e1 e2 e3 h a ha
  unfold jbT
  match a with
  | 0 => simp only [h 1 (by omega), h 2 (by omega)]
  | 1 => simp only [e2]
  | _ + 2 => simp only [e1]
theorem gOK_S : gOK 6 jsit := fun K K2 b e1 _ _ h a _ => jsit_c e1 (fun i hi => h i (by omega)) a
theorem gOK_1 : gOK 2 jb1 := by
  intro K K2 b e1 e2 e3 h a ha
  unfold jb1
  match a with
  | 0 => simp only [h 1 (by omega)]
  | _ + 1 => simp only [e1]
theorem gOK_2 : gOK 3 jb2 := by
  intro K K2 b e1 e2 e3 h a ha
  unfold jb2
  match a with
  | 0 => simp only [h 1 (by omega), h 2 (by omega)]
  | _ + 1 => simp only [e1]
theorem gOK_0 (m : Nat) (hm : 1 ≤ m) : gOK (2 + 6 * m) (jb0 m) := by
  intro K K2 b e1 e2 e3 h a ha
  unfold jb0
  match a, ha with
  | 0, _ => simp only [h 1 (by omega)]
  | 1, _ =>
    have e : (fun q => if q < m then some (kad K (b + 2 + 6 * q)) else none) = fun q => if q < m then some (kad K2 (b + 2 + 6 * q)) else none := by
      funext q
      by_cases hq : q < m
      · have h9 := h (2 + 6 * q) (by omega)
        rw [if_pos hq, if_pos hq, Nat.add_assoc, h9]
      · rw [if_neg hq, if_neg hq]
    simp only [e3]
    rw [e]
  | a + 2, ha =>
    exact jsit_c e1 (fun i hi => by
      have h9 := h (2 + 6 * (a / 6) + i) (by omega)
      rw [show b + 2 + 6 * (a / 6) + i = b + (2 + 6 * (a / 6) + i) by omega, h9]) (a % 6)
/-- the object's fields: null, or the cell that stands there -/
def jsO (K : zK) (fo : List (Option Nat)) : List Value := fo.map (fun x => match x with | none => .null | some b => .ref (kad K b))
def jsW (K : zK) (u : zE) (n : Nat) (fo : List (Option Nat)) (B : List (Nat × Nat × jB)) : Prop := kN K = n ∧ u 0 = .inr (5, jsO K fo) ∧ (∀ b : Nat, some b ∈ fo → b < n) ∧ ∀ x ∈ B, gOK x.2.1 x.2.2 ∧ 0 < x.1 ∧ x.1 + x.2.1 ≤ n ∧ ∀ a : Nat, a < x.2.1 → u (x.1 + a) = x.2.2 K x.1 a
theorem jsO_c {K K2 : zK} {fo : List (Option Nat)} (h : ∀ b : Nat, some b ∈ fo → kad K b = kad K2 b) : jsO K fo = jsO K2 fo := by
  unfold jsO
  refine List.map_congr_left (fun x hx => ?_)
  cases x with
  | none => rfl
  | some b => simp only [h b hx]
theorem jsO_set (K : zK) (fo : List (Option Nat)) (i b : Nat) : (jsO K fo).set i (.ref (kad K b)) = jsO K (fo.set i (some b)) := by
  unfold jsO
  rw [List.map_set]
theorem jsO_len (K : zK) (fo : List (Option Nat)) : (jsO K fo).length = fo.length := by
  unfold jsO
  rw [List.length_map]
theorem jsW_s {K : zK} {ct u : zE} {n nb fi : Nat} {fo : List (Option Nat)} {B : List (Nat × Nat × jB)} {g : jB} {M : List Nat} (h : jsW K ct n fo B) (h0 : 0 < n) (hM : M.length = nb) (hnb : 0 < nb) (hg : gOK nb g) (h1 : ∀ a : Nat, a < nb → u (kN K + a) = g (zx K M) (kN K) a) (h2 : ∀ i : Nat, i < kN K → u i = ct i) : jsW (zx K M) (zup u 0 (.inr (5, (jsO K fo).set fi (.ref (kad (zx K M) n))))) (n + nb) (fo.set fi (some n)) (B ++ [(n, nb, g)]) := by
  obtain ⟨k1, k2, k3, k4⟩ := h
  rw [k1] at h1 h2
  have old : ∀ i : Nat, i < n → kad K i = kad (zx K M) i := fun i hi => (zx_old (by rw [k1]; exact hi)).symm
  refine ⟨by rw [kN_zx, k1, hM], ?_, ?_, ?_⟩
  · rw [zup_s, jsO_c (fun b hb => old b (k3 b hb)), jsO_set]
  · intro b hb
    rcases List.mem_or_eq_of_mem_set hb with hb | hb
    · exact Nat.lt_of_lt_of_le (k3 b hb) (Nat.le_add_right _ _)
    · rw [Option.some.inj hb]
      omega
  · intro x hx
    rcases List.mem_append.mp hx with hx | hx
    · obtain ⟨j1, j2, j3, j4⟩ := k4 x hx
      refine ⟨j1, j2, Nat.le_trans j3 (Nat.le_add_right _ _), fun a ha => ?_⟩
      rw [zup_n _ _ (by omega), h2 _ (by omega), j4 a ha]
      exact j1 K (zx K M) x.1 rfl rfl rfl (fun i hi => old _ (by omega)) a ha
    · rw [List.mem_singleton.mp hx]
      refine ⟨hg, h0, Nat.le_refl _, fun a ha => ?_⟩
      show zup u 0 _ (n + a) = _
      rw [zup_n _ _ (by omega)]
      exact h1 a ha
theorem zO_I {K : zK} {X : zX} {cc : ByteArray} {own : String} {ret : Option FieldType} {nL f : Nat} (O : zO K X cc own ret nL f) : zInj K := by
  obtain ⟨-, -, -, -, -, -, -, -, -, h, -⟩ := O
  exact h
/-- a stage: a class of ours is made and stands in a field -/
theorem js_stage {K : zK} {X : zX} {f pc n : Nat} {lo : List (Nat × Value)} {ct : zE} {o0 : Nat} {fo : List (Option Nat)} {B : List (Nat × Nat × jB)} {ci nf ic ii ip fi mc ms : Nat} {C : String} {T : u_T} {ty : Nat → FieldType} {tf : FieldType} {y : MethodName} {b : ByteArray} {post : Nat → List Nat → zE → Prop} {g : jB} (fs0 : List Value)
    (O : zO K X cX5_init yX5_init.cls none 2 f) (hf : 2 ≤ f) (hnm : (xme X).name = "<init>") (hA : ∀ q, (xs X).heap.size ≤ q → kA K q) (h0 : 0 < n) (hk : kad K 0 = o0) (hW : jsW K ct n fo B)
    (d1 : decode cX5_init pc = .ok (.aload_n 0, 1)) (hlo : zget lo 0 = some (.ref o0)) (d2 : decode cX5_init (pc + 1) = .ok (.new ic, 3)) (d3 : decode cX5_init (pc + 1 + 3) = .ok (.dup, 1)) (d4 : decode cX5_init (pc + 1 + 3 + 1) = .ok (.invokespecial ii, 3)) (d5 : decode cX5_init (pc + 1 + 3 + 1 + 3) = .ok (.putfield ip, 3))
    (hC : zCl ci C T nf) (hw : Cond.classLink yX5_init.cls ic C ∈ zTB) (hi : Cond.instantiable C nf ∈ zTB) (hin : Cond.initialized C ∈ zTB) (hty : ∀ k, k < nf → parseFieldDescriptor (T k).2.2.1 = some (ty k)) (hfs0 : ∀ j, j < nf → defaultValue (ty j) = vp_V fs0 j)
    (hM : ∀ q : Nat, zInj (zx K [q]) → zN (zx K [q]) y b 1 1 mc ms [.ref (kad (zx K [q]) (kN K))] (zup ct (kN K) (.inr (ci, fs0))) (fun _ => True) (post q))
    (hpost : ∀ (q : Nat) (L : List Nat) (u : zE), post q L u → L.length = mc ∧ (∀ a : Nat, a < 1 + mc → u (kN K + a) = g (zx K ([q] ++ L)) (kN K) a) ∧ ∀ i : Nat, i < kN K → u i = ct i) (hg : gOK (1 + mc) g)
    (hnest : va_Nw (.methodLinkNest yX5_init.cls ii y RX5) (xs X)) (hyi : Cond.instanceMethod y ∈ zTB) (hyin : Cond.initialized y.cls ∈ zTB) (hcode : Cond.code y b 1 none ∈ zTB) (hds : zDs y 0) (hyn : y.name = "<init>") (hc : xc X + 1 + mc ≤ (xR X).cells) (hn : xn X + nf + ms ≤ (xR X).slots)
    (hwf : Cond.fieldLink yX5_init.cls ip yX5_init.cls (TX5 fi).2.1 (TX5 fi).2.2.1 ∈ zTB) (hfi : fi < 7) (hfin : (TX5 fi).2.2.2 = true) (hpty : parseFieldDescriptor (TX5 fi).2.2.1 = some tf) (hnr : ∀ q : Nat, narrow tf (.ref q) = .ref q) (hfit : ∀ q : Nat, fits tf (.ref q) = true) (hl : fo.length = 7)
    (k : ∀ (M : List Nat) (u : zE), kad (zx K M) 0 = o0 → jsW (zx K M) u (n + (1 + mc)) (fo.set fi (some n)) (B ++ [(n, 1 + mc, g)]) → zO (zx K M) (zXg X (1 + mc) (nf + ms)) cX5_init yX5_init.cls none 2 f → G (zx K M) (zXg X (1 + mc) (nf + ms)) 2 (pc + 1 + 3 + 1 + 3 + 3) lo [] u) : G K X 2 pc lo [] ct := by
  refine n_aload_n O d1 hlo ?_
  refine r_new (ci := ci) (fs := fs0) O hA hC hw hi hin hty hfs0 (by omega) (by omega) d2 (fun q O1 => ?_)
  refine r_dup O1 rfl d3 ?_
  have hq : kad (zx K [q]) (kN K) = q := by
    rw [zx_new (Nat.le_refl _), Nat.sub_self]
    rfl
  have hM1 := hM q (zO_I O1)
  rw [hq] at hM1
  refine r_callIN0 O1 hA hM1 (fun _ _ _ _ h => h) (fun _ _ _ _ _ _ => trivial) hnest hyi hyin hcode hds hyn hf (by decide) (Nat.le_of_ble_eq_true rfl) hc hn d4 (fun L u hu O2 => ?_)
  obtain ⟨p1, p2, p3⟩ := hpost q L u hu
  have hk0 : kN K = n := hW.1
  have e3 : zx (zx K [q]) L = zx K ([q] ++ L) := zx_app K [q] L
  have ko : kad (zx K ([q] ++ L)) 0 = o0 := (zx_old (by omega)).trans hk
  rw [e3] at O2
  refine G_cast e3 rfl ?_
  refine r_putF (a := 0) (ty := tf) O2 hnm (by rw [kN_zx]; omega) ko ((p3 0 (by omega)).trans hW.2.1) zCl5 hwf hfi hfin hpty (hnr q) (hfit q) (by rw [jsO_len, hl]; exact hfi) d5 ?_
  have hM2 : ([q] ++ L).length = 1 + mc := by
    rw [List.length_append, p1]
    rfl
  have hs := jsW_s (fi := fi) (M := [q] ++ L) (nb := 1 + mc) hW h0 hM2 (by omega) hg p2 p3
  have hq2 : kad (zx K ([q] ++ L)) n = q := by
    rw [zx_new (by omega), hk0, Nat.sub_self]
    rfl
  rw [hq2] at hs
  have eX : zXg (zXg X 1 nf) mc ms = zXg X (1 + mc) (nf + ms) := zXg_app X 1 nf mc ms
  rw [eX] at O2
  exact G_cast rfl eX (k _ _ ko hs O2)
/-- a stage of a pile -/
theorem js_pile {K : zK} {X : zX} {f pc n : Nat} {lo : List (Nat × Value)} {ct : zE} {o0 : Nat} {fo : List (Option Nat)} {B : List (Nat × Nat × jB)} {ip fi m : Nat} (dl : Nat) (hm1 : 1 ≤ m) (hm8 : m ≤ 8)
    (O : zO K X cX5_init yX5_init.cls none 2 f) (hf : 3 ≤ f) (hnm : (xme X).name = "<init>") (hA : ∀ q, (xs X).heap.size ≤ q → kA K q) (h0 : 0 < n) (hk : kad K 0 = o0) (hW : jsW K ct n fo B)
    (d1 : decode cX5_init pc = .ok (.aload_n 0, 1)) (hlo : zget lo 0 = some (.ref o0)) (d2 : decode cX5_init (pc + 1) = .ok (.new 40, 3)) (d3 : decode cX5_init (pc + 1 + 3) = .ok (.dup, 1)) (dp : ∀ (K2 : zK) (X2 : zX) (st : List Value) (c2 : zE), zO K2 X2 cX5_init yX5_init.cls none 2 f → G K2 X2 2 (pc + 1 + 3 + 1 + dl) lo (.int (iI (m : Int)) :: st) c2 → G K2 X2 2 (pc + 1 + 3 + 1) lo st c2) (d4 : decode cX5_init (pc + 1 + 3 + 1 + dl) = .ok (.invokespecial 42, 3)) (d5 : decode cX5_init (pc + 1 + 3 + 1 + dl + 3) = .ok (.putfield ip, 3))
    (hP : jsP0 (xs X)) (hc : xc X + 1 + (1 + 6 * m) ≤ (xR X).cells) (hn : xn X + 2 + (m + 46 * m) ≤ (xR X).slots)
    (hwf : Cond.fieldLink yX5_init.cls ip yX5_init.cls (TX5 fi).2.1 (TX5 fi).2.2.1 ∈ zTB) (hfi : fi < 7) (hfin : (TX5 fi).2.2.2 = true) (hpty : parseFieldDescriptor (TX5 fi).2.2.1 = some (.object RX0)) (hl : fo.length = 7)
    (k : ∀ (M : List Nat) (u : zE), kad (zx K M) 0 = o0 → jsW (zx K M) u (n + (2 + 6 * m)) (fo.set fi (some n)) (B ++ [(n, 2 + 6 * m, jb0 m)]) → zO (zx K M) (zXg X (2 + 6 * m) (2 + 47 * m)) cX5_init yX5_init.cls none 2 f → G (zx K M) (zXg X (2 + 6 * m) (2 + 47 * m)) 2 (pc + 1 + 3 + 1 + dl + 3 + 3) lo [] u) : G K X 2 pc lo [] ct := by
  have hk0 : kN K = n := hW.1
  refine n_aload_n O d1 hlo ?_
  refine r_new (ci := 0) (fs := [.null, .int (iI 0)]) O hA zCl0 zcl_X5_40 zns_X0 zin_X0 tyX0_ok (by decide +kernel) (by omega) (by omega) d2 (fun q O1 => ?_)
  refine r_dup O1 rfl d3 ?_
  have hq : kad (zx K [q]) (kN K) = q := by
    rw [zx_new (Nat.le_refl _), Nat.sub_self]
    rfl
  have hM1 := I_X0_init (zO_I O1) (kN K) (Nat.lt_succ_self _) (zup ct (kN K) (.inr (0, [.null, .int (iI 0)]))) (zup_s _ _ _) m hm1 hm8
  rw [hq] at hM1
  refine dp _ _ _ _ O1 ?_
  refine r_callI1 O1 hA hM1 jsP0_bl (fun U _ _ _ _ hW9 => jsP0_pk hP hW9) ql_X5_42 zi_X0_init zin_X0 zc_X0_init ⟨by decide +kernel, by decide +kernel, by decide +kernel⟩ rfl (by omega) (by decide) (Nat.le_of_ble_eq_true rfl) hc hn d4 (fun L u hu O2 => ?_)
  obtain ⟨p1, p2, p3, p4, p5⟩ := hu
  have e3 : zx (zx K [q]) L = zx K ([q] ++ L) := zx_app K [q] L
  have eN : kN (zx K [q]) = n + 1 := by rw [kN_zx, hk0]; rfl
  have ko : kad (zx K ([q] ++ L)) 0 = o0 := (zx_old (by omega)).trans hk
  have q3 : ∀ i : Nat, i < kN K → u i = ct i := fun i hi => by
    rw [p5 i (Nat.lt_of_lt_of_le hi (Nat.le_add_right _ _)) (Nat.ne_of_lt hi), zup_n _ _ (Nat.ne_of_lt hi)]
  rw [e3] at O2 p2 p3 p4
  rw [eN] at p2 p3 p4
  rw [hk0] at p2
  have q2 : ∀ a : Nat, a < 2 + 6 * m → u (kN K + a) = jb0 m (zx K ([q] ++ L)) (kN K) a := by
    intro a ha
    rw [hk0]
    unfold jb0
    match a, ha with
    | 0, _ => exact p2
    | 1, _ => exact p3
    | a + 2, ha =>
      have h9 := p4 (a / 6) (a % 6) (by omega) (by omega)
      rw [show n + 1 + 1 + 6 * (a / 6) + a % 6 = n + (a + 2) by omega] at h9
      exact h9
  refine G_cast e3 rfl ?_
  refine r_putF (a := 0) (ty := .object RX0) O2 hnm (by rw [kN_zx]; omega) ko ((q3 0 (by omega)).trans hW.2.1) zCl5 hwf hfi hfin hpty rfl rfl (by rw [jsO_len, hl]; exact hfi) d5 ?_
  have hM2 : ([q] ++ L).length = 2 + 6 * m := by
    rw [List.length_append, p1]
    show 1 + (1 + 6 * m) = _
    omega
  have hs := jsW_s (fi := fi) (M := [q] ++ L) (nb := 2 + 6 * m) hW h0 hM2 (by omega) (gOK_0 m hm1) q2 q3
  have hq2 : kad (zx K ([q] ++ L)) n = q := by
    rw [zx_new (by omega), hk0, Nat.sub_self]
    rfl
  rw [hq2] at hs
  have eX : zXg (zXg X 1 2) (1 + 6 * m) (m + 46 * m) = zXg X (2 + 6 * m) (2 + 47 * m) := by
    rw [zXg_app, show 1 + (1 + 6 * m) = 2 + 6 * m by omega, show 2 + (m + 46 * m) = 2 + 47 * m by omega]
  rw [eX] at O2
  exact G_cast rfl eX (k _ _ ko hs O2)
