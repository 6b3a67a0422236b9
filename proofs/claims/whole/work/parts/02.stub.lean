-- to be replaced by tables that a program prints
def gCL : List vw_C := []
def gTY (_ _ : Nat) : FieldType := .int
def gWS : List Cond := []
def gNW : List Cond := []
abbrev gG : Type := va_G × List (ClassId × FieldType) × (Nat × Nat × (Nat → Int32))
def gSt (_ : gG) (_ : Nat → Prop) (_ : State) : Prop := True
def gF (_ : String) (_ : Nat) : Option (Nat × Nat) := none
def gFp (_ : MethodName) (_ : Nat) : Option (Nat × Nat) := none
def gKi (_ : String) (_ : Nat) : Option Int32 := none
def gKl (_ : String) (_ : Nat) : Option Int64 := none
theorem gWS_good : ∀ w ∈ gWS, (w.onTables && w.keeps) = true ∨ ∃ ty, w = .arrayClass ty := sorry
theorem gNW_on : ∀ w ∈ gNW, w.onTables = true := sorry
theorem gNW_warm {s U : State} (hW : s.WarmedH U.vm) : ∀ w ∈ gNW, va_Nw w s → va_Nw w U := sorry
theorem gSt.go {g : gG} {A B : Nat → Prop} {s U : State} (h : gSt g A s) (hvm : s.vm.Alike U.vm) (hq : ∀ q : Nat, q < s.heap.size → ¬ A q → U.heap[q]? = s.heap[q]?) (hAB : ∀ q, B q → A q) : gSt g B U := trivial
theorem gCL_ok {ci N : Nat} {CN : String} {T : u_T} (h : gCL[ci]? = some (CN, T, N)) : (∀ w ∈ u_ws CN T N, w ∈ gWS) ∧ (∀ k, k < N → parseFieldDescriptor (T k).2.2.1 = some (gTY ci k)) ∧ (∀ a, a < N → ∀ b, b < N → a ≠ b → (T a).2.1 ≠ (T b).2.1) := sorry
theorem gF_ok {own : String} {idx ci j : Nat} (h : gF own idx = some (ci, j)) : ∃ q : vw_C, gCL[ci]? = some q ∧ j < q.2.2 ∧ (∀ w ∈ u_ws q.1 q.2.1 q.2.2, w ∈ gWS) ∧ (Cond.fieldLink own idx (q.2.1 j).1 (q.2.1 j).2.1 (q.2.1 j).2.2.1 ∈ gWS ∨ ∃ host : String, Cond.fieldLinkNest own idx (q.2.1 j).1 (q.2.1 j).2.1 (q.2.1 j).2.2.1 host ∈ gNW) := sorry
theorem gFp_ok {y : MethodName} {idx ci j : Nat} (h : gFp y idx = some (ci, j)) : ∃ q : vw_C, gCL[ci]? = some q ∧ j < q.2.2 ∧ (∀ w ∈ u_ws q.1 q.2.1 q.2.2, w ∈ gWS) ∧ (∀ k, k < q.2.2 → parseFieldDescriptor (q.2.1 k).2.2.1 = some (gTY ci k)) ∧ (∀ a, a < q.2.2 → ∀ b, b < q.2.2 → a ≠ b → (q.2.1 a).2.1 ≠ (q.2.1 b).2.1) ∧ (((q.2.1 j).2.2.2 = false ∧ Cond.fieldLink y.cls idx (q.2.1 j).1 (q.2.1 j).2.1 (q.2.1 j).2.2.1 ∈ gWS) ∨ ((q.2.1 j).2.2.2 = true ∧ y.name = "<init>" ∧ (q.2.1 j).1 = y.cls ∧ Cond.fieldLink y.cls idx (q.2.1 j).1 (q.2.1 j).2.1 (q.2.1 j).2.2.1 ∈ gWS)) := sorry
theorem gKi_ok {own : String} {idx : Nat} {x : Int32} (h : gKi own idx = some x) : Cond.constant own idx x ∈ gWS := sorry
theorem gKl_ok {own : String} {idx : Nat} {x : Int64} (h : gKl own idx = some x) : Cond.constantLong own idx x ∈ gWS := sorry
