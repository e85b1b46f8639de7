def hotV (k : Int) : Int := if k = 1 then 4 else if k = 2 then 7 else if k = 3 then 8 else 9
def spoonV (sa he k sp be : Int) : Int := if be < sa ∨ hotV k < he then 0 else if k = 2 then 2 * sp else if k = 3 then 1 else sp
def shareV (v : SV) (i : Int) : Int := min (min (spoonV (qsa v) (qhe v) (qkd v i) (qsp v i) (qbe v i)) (qhu v i)) (qam v)
/-- a sitting whose numbers are such as the document tells -/
def okV (v : SV) : Prop := (0 ≤ qn v ∧ qn v ≤ 7) ∧ (0 ≤ qam v ∧ qam v ≤ 99) ∧ (0 ≤ qhe v ∧ qhe v ≤ 9) ∧ (0 ≤ qsa v ∧ qsa v ≤ 9) ∧ (1 ≤ qro v ∧ qro v ≤ 20) ∧ (1 ≤ qfa v ∧ qfa v ≤ 20) ∧ ∀ i : Int, 0 ≤ i → i < qn v → (0 ≤ qkd v i ∧ qkd v i ≤ 3) ∧ (1 ≤ qsp v i ∧ qsp v i ≤ 9) ∧ (0 ≤ qhu v i ∧ qhu v i ≤ 60) ∧ (0 ≤ qbe v i ∧ qbe v i ≤ 9)
def outV (a l h : Int) : Int := if a < l ∨ h < a then 1 else 0
theorem nar01 {z : Int} (h : z = 0 ∨ z = 1) : narrow .boolean (.int (iI z)) = .int (iI z) := by
  rcases h with h | h <;> subst h <;> rfl
theorem hotV_b (k : Int) : 4 ≤ hotV k ∧ hotV k ≤ 9 := by unfold hotV; split <;> (try split) <;> (try split) <;> omega
theorem spoonV_b {sa he k sp be : Int} (h : 1 ≤ sp ∧ sp ≤ 9) : 0 ≤ spoonV sa he k sp be ∧ spoonV sa he k sp be ≤ 18 := by unfold spoonV; split <;> (try split) <;> (try split) <;> omega
