-- the memory while the objects are made: cells in the order of their making
abbrev Ce : Type := Nat × Nat × (Nat → Vl)
abbrev Al : Type := List Ce
/-- kind 77: an address as it is -/
def adA (b0 : Nat) : Nat → Int → Nat := fun c i => match c with
  | 77 => i.toNat
  | _ => b0 + i.toNat
def toI : Vl → Int
  | .inl a => a
  | _ => 0
def toR (b0 : Nat) : Vl → Option Nat
  | .inr (.inl (some q)) => some (b0 + q.2.toNat)
  | _ => none
def updC (f : Nat → Vl) (k : Nat) (v : Vl) : Nat → Vl := fun j => if j = k then v else f j
def cA (b0 : Nat) (cI : ClassId) (cR : Nat → ClassId) (x : Ce) : va_E := match x.1 with
  | 0 => .inr (x.2.1, (List.range (clN x.2.1)).map fun k => mv (adA b0) (x.2.2 k))
  | 1 => .inl (cI, x.2.1, .inl (fun j => i3 (toI (x.2.2 j))))
  | t => .inl (cR t, x.2.1, .inr (.inr (.inr (.inr (fun j => toR b0 (x.2.2 j))))))
def wsA (b0 : Nat) (cI : ClassId) (cR : Nat → ClassId) (μ : Al) : va_W := μ.zipIdx.map (fun q => (b0 + q.2, cA b0 cI cR q.1))
theorem wsA_get {b0 : Nat} {cI : ClassId} {cR : Nat → ClassId} {μ : Al} {k : Nat} : (wsA b0 cI cR μ)[k]? = (μ[k]?).map fun x => (b0 + k, cA b0 cI cR x) := by
  unfold wsA
  rw [List.getElem?_map, List.getElem?_zipIdx]
  cases μ[k]? with
  | none => rfl
  | some x => simp
theorem wsA_at {b0 : Nat} {cI : ClassId} {cR : Nat → ClassId} {μ : Al} {k : Nat} {x : Ce} (h : μ[k]? = some x) : (wsA b0 cI cR μ)[k]? = some (b0 + k, cA b0 cI cR x) := by
  rw [wsA_get, h]
  rfl
theorem wsA_set {b0 : Nat} {cI : ClassId} {cR : Nat → ClassId} {μ : Al} {k : Nat} {x y : Ce} (h : μ[k]? = some x) : (wsA b0 cI cR μ).set k (b0 + k, cA b0 cI cR y) = wsA b0 cI cR (μ.set k y) := by
  have hlt := (List.getElem?_eq_some_iff.mp h).1
  have hl2 : k < (wsA b0 cI cR μ).length := (List.getElem?_eq_some_iff.mp (wsA_at h)).1
  apply List.ext_getElem?
  intro n
  by_cases hn : k = n
  · subst hn
    rw [List.getElem?_set_self hl2, wsA_get, List.getElem?_set_self hlt]
    rfl
  · rw [List.getElem?_set_ne hn, wsA_get, wsA_get, List.getElem?_set_ne hn]
theorem wsA_app {b0 : Nat} {cI : ClassId} {cR : Nat → ClassId} {μ : Al} {x : Ce} : wsA b0 cI cR (μ ++ [x]) = wsA b0 cI cR μ ++ [(b0 + μ.length, cA b0 cI cR x)] := by
  unfold wsA
  rw [List.zipIdx_append, List.map_append]
  simp
theorem wsA_D {b0 : Nat} {cI : ClassId} {cR : Nat → ClassId} {μ : Al} {A : Nat → Prop} (hA : ∀ q, b0 ≤ q → A q) : va_D A (wsA b0 cI cR μ) := by
  have key : ∀ (k : Nat) (q : Nat × va_E), (wsA b0 cI cR μ)[k]? = some q → q.1 = b0 + k := fun k q h => by
    rw [wsA_get] at h
    cases hx : μ[k]? with
    | none => rw [hx] at h; cases h
    | some x => rw [hx] at h; cases h; rfl
  refine ⟨fun i j p q hi hj he => ?_, fun k q h => hA _ (by have := key k q h; omega)⟩
  have h1 := key i p hi
  have h2 := key j q hj
  omega
def szC (x : Ce) : Nat := if x.1 = 0 then clN x.2.1 else x.2.1
def szs (μ : Al) : Nat := (μ.map szC).sum
theorem szs_app {a b : Al} : szs (a ++ b) = szs a + szs b := by simp [szs]
theorem szs_set {μ : Al} {k : Nat} {x y : Ce} (h : μ[k]? = some x) (hs : szC y = szC x) : szs (μ.set k y) = szs μ := by
  unfold szs
  rw [List.map_set]
  congr 1
  have hlt := (List.getElem?_eq_some_iff.mp h).1
  apply List.ext_getElem?
  intro n
  by_cases hn : k = n
  · subst hn
    rw [List.getElem?_set_self (by simpa using hlt), List.getElem?_map, h, hs]
    rfl
  · rw [List.getElem?_set_ne hn]
def vdA (pre l : Al) : Nat × Int → Prop := fun q => q.1 = 77 ∨ (0 ≤ q.2 ∧ q.2 < ((pre.length + l.length : Nat) : Int))
def WA (b0 : Nat) (cI : ClassId) (cR : Nat → ClassId) (D : va_G) (pre l : Al) (H : Heap) : Prop := va_P D vwCl (wsA b0 cI cR (pre ++ l)) H ∧ H.size = b0 + (pre.length + l.length)
/-- what holds of the tables throughout -/
def CAt (cI : ClassId) (cR : Nat → ClassId) (D : va_G) (U : State) : Prop := va_K D vwCl (tysT cI cR) U ∧ va_AO RX2 U ∧ va_AO RX4 U ∧ va_AO RX3 U ∧ (Cond.arrayOver (.array .int)).before #[] U = true ∧ (∀ w ∈ nT, va_Nw w U)
/-- the default of a field -/
def dfl (ci k : Nat) : Vl := match ci, k with
  | 0, _ => vI 0
  | 1, 0 => vN | 1, 1 => vN | 1, 2 => vN | 1, 3 => vN
  | 1, _ => vI 0
  | 2, 7 => vN | 2, 8 => vN | 2, 9 => vN | 2, 16 => vN
  | 2, _ => vI 0
  | 3, _ => vI 0
  | 4, _ => vI 0
  | 5, _ => vN
  | 6, 8 => vI 0
  | _, _ => vN
theorem aoA_moved {u U : State} (hvm : u.vm.Alike U.vm) (h : (Cond.arrayOver (.array .int)).before #[] u = true) : (Cond.arrayOver (.array .int)).before #[] U = true := by
  have h1 : (Cond.arrayOver (.array .int)).before #[] (u.setVm U.vm) = true := (Cond.arrayOver_setVmC hvm (.array .int)).trans h
  exact h1
theorem CAt.moved {cI : ClassId} {cR : Nat → ClassId} {D : va_G} {u U : State} (h : CAt cI cR D u) (hW : u.WarmedH U.vm) : CAt cI cR D U :=
  ⟨h.1.moved hW.alike, h.2.1.moved hW.alike, h.2.2.1.moved hW.alike, h.2.2.2.1.moved hW.alike, aoA_moved hW.alike h.2.2.2.2.1, nT_moved h.2.2.2.2.2 hW⟩
