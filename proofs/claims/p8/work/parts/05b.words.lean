-- what a link of the code says
def clN (ci : Nat) : Nat := match ci with
  | 0 => 7 | 1 => 8 | 2 => 17 | 3 => 4 | 4 => 6 | 5 => 8 | 6 => 23 | _ => 0
-- links: a field of class number ci by its slot k; kz the same number as an int
def FLk (own : String) (idx ci k : Nat) (ty : FieldType) : Prop := ∃ (C : String) (T : u_T) (N : Nat) (ty0 : Nat → FieldType), vwCl[ci]? = some (C, T, N) ∧ N = clN ci ∧ k < N ∧ (∀ w ∈ u_ws C T N, w ∈ gT) ∧ (∀ k, k < N → parseFieldDescriptor (T k).2.2.1 = some (ty0 k)) ∧ (∀ a, a < N → ∀ b, b < N → a ≠ b → (T a).2.1 ≠ (T b).2.1) ∧ (T k).1 = C ∧ ty0 k = ty ∧
  (Cond.fieldLink own idx C (T k).2.1 (T k).2.2.1 ∈ gT ∨ ∃ host : String, Cond.fieldLinkNest own idx C (T k).2.1 (T k).2.2.1 host ∈ nT)
def FLw (own : String) (idx ci k : Nat) (ty : FieldType) : Prop := FLk own idx ci k ty ∧ ∀ (C : String) (T : u_T) (N : Nat), vwCl[ci]? = some (C, T, N) → (T k).2.2.2 = false
def SLk (own : String) (idx : Nat) : Prop := Cond.fieldLink own idx RX5 "NUMBERS" "[I" ∈ gT ∨ ∃ host : String, Cond.fieldLinkNest own idx RX5 "NUMBERS" "[I" host ∈ nT
