-- the fixed world: which cells there are once both objects stand, and what each holds, out of a memory of whole numbers
def kd (c : Nat) : Nat × Nat := match c with
  | 2 => (0, 5) | 3 => (2, 4) | 4 => (2, 3) | 5 => (3, 8) | 6 => (4, 4) | 7 => (0, 2)
  | 8 => (1, 121) | 9 => (1, 121) | 10 => (1, 121) | 11 => (0, 0) | 12 => (0, 4) | 13 => (0, 3) | 14 => (0, 1)
  | 15 => (1, 16) | 16 => (1, 8) | 17 => (1, 7) | 18 => (1, 7) | 19 => (5, 5) | 20 => (5, 5) | 21 => (1, 121) | 22 => (1, 121)
  | 30 => (0, 6) | 31 => (1, 176) | 32 => (1, 968) | 33 => (1, 968) | 34 => (1, 968) | 35 => (1, 16) | 36 => (1, 8) | 37 => (1, 242) | 38 => (1, 7)
  | 39 => (1, 8) | 40 => (1, 8) | 41 => (1, 8) | 42 => (1, 8) | 43 => (1, 8) | 44 => (1, 8) | 45 => (1, 4) | 46 => (1, 4) | 47 => (1, 4) | 48 => (1, 4)
  | 49 => (1, 7) | 50 => (1, 14400) | 51 => (1, 605) | 52 => (1, 605)
  | _ => (9, 0)
/-- how many of a kind -/
def cnt (c : Nat) : Nat := match c with
  | 0 => 1 | 1 => 1 | 7 => 7 | 8 => 7 | 9 => 7 | 10 => 7 | 11 => 8 | 12 => 8 | 13 => 4 | 21 => 5 | 22 => 5
  | 23 => 0 | 24 => 0 | 25 => 0 | 26 => 0 | 27 => 0 | 28 => 0 | 29 => 0
  | c => if c < 53 then 1 else 0
/-- the references that fields hold -/
def rff (c : Nat) (i : Int) (k : Nat) : Option (Nat × Int) := match c, k with
  | 2, 0 => some (3, 0) | 2, 1 => some (4, 0) | 2, 2 => some (5, 0) | 2, 3 => some (6, 0) | 2, 4 => some (14, 0) | 2, 5 => some (11, 7) | 2, 6 => some (19, 0) | 2, 7 => some (20, 0)
  | 7, 7 => some (8, i) | 7, 8 => some (9, i) | 7, 9 => some (10, i) | 7, 16 => some (11, i)
  | 14, 0 => some (15, 0) | 14, 1 => some (16, 0) | 14, 2 => some (17, 0) | 14, 3 => some (18, 0)
  | 30, 0 => some (31, 0) | 30, 1 => some (32, 0) | 30, 2 => some (33, 0) | 30, 3 => some (34, 0) | 30, 4 => some (35, 0) | 30, 5 => some (36, 0) | 30, 6 => some (37, 0) | 30, 7 => some (38, 0)
  | 30, 9 => some (39, 0) | 30, 10 => some (40, 0) | 30, 11 => some (41, 0) | 30, 12 => some (42, 0) | 30, 13 => some (43, 0) | 30, 14 => some (44, 0) | 30, 15 => some (45, 0) | 30, 16 => some (46, 0) | 30, 17 => some (47, 0) | 30, 18 => some (48, 0) | 30, 19 => some (49, 0) | 30, 20 => some (50, 0) | 30, 21 => some (51, 0) | 30, 22 => some (52, 0)
  | _, _ => none
/-- the references that rows hold -/
def rfa (c : Nat) (j : Int) : Nat × Int := match c with
  | 3 => (7, j) | 4 => (7, 4 + j) | 5 => (12, j) | 6 => (13, j) | 19 => (21, j) | 20 => (22, j)
  | _ => (99, 0)
def vld (q : Nat × Int) : Prop := 0 ≤ q.2 ∧ q.2 < (cnt q.1 : Int)
def cellsL : List (Nat × Int) := (List.range 53).flatMap fun c => if c < 2 then [] else (List.range (cnt c)).map fun (k : Nat) => (c, (k : Int))
theorem cellsL_mem {c : Nat} {i : Int} (h : vld (c, i)) (hc : 2 ≤ c) : (c, i) ∈ cellsL := by
  obtain ⟨h1, h2⟩ := h
  have hc2 : c < 53 := by
    refine Nat.not_le.mp fun h => ?_
    have h0 : cnt c = 0 := by
      unfold cnt
      split <;> first | omega | (rw [if_neg (by omega)])
    rw [show cnt (c, i).1 = 0 from h0] at h2
    simp at h2
    omega
  refine List.mem_flatMap.mpr ⟨c, List.mem_range.mpr hc2, ?_⟩
  rw [if_neg (by omega)]
  refine List.mem_map.mpr ⟨i.toNat, List.mem_range.mpr ?_, ?_⟩
  · have h3 : i < (cnt c : Int) := h2
    have h4 : 0 ≤ i := h1
    omega
  · have h4 : 0 ≤ i := h1
    rw [Int.toNat_of_nonneg h4]
theorem cellsL_nd : cellsL.Nodup := by decide +kernel
def fval (τ : Mm) (c : Nat) (i : Int) (k : Nat) : Vl := match rff c i k with
  | some q => Sum.inr (Sum.inl (some q))
  | none => vI (τ c i k)
def cE (ad : Nat → Int → Nat) (cI : ClassId) (cR : Nat → ClassId) (τ : Mm) (c : Nat) (i : Int) : va_E := match (kd c).1 with
  | 0 => .inr ((kd c).2, (List.range (clN (kd c).2)).map fun k => mv ad (fval τ c i k))
  | 1 => .inl (cI, (kd c).2, .inl (fun j => i3 (τ c i (j : Int))))
  | t => .inl (cR t, (kd c).2, .inr (.inr (.inr (.inr (fun j => some (ad (rfa c j).1 (rfa c j).2))))))
def wsT (ad : Nat → Int → Nat) (cI : ClassId) (cR : Nat → ClassId) (τ : Mm) : va_W := cellsL.map fun q => (ad q.1 q.2, cE ad cI cR τ q.1 q.2)
def tysT (cI : ClassId) (cR : Nat → ClassId) : List (ClassId × FieldType) := [(cI, .int), (cR 2, .object RX2), (cR 3, .object RX4), (cR 4, .object RX3), (cR 5, .array .int)]
theorem wsT_at {ad : Nat → Int → Nat} {cI : ClassId} {cR : Nat → ClassId} {τ : Mm} {c : Nat} {i : Int} (h : vld (c, i)) (hc : 2 ≤ c) : ∃ k : Nat, cellsL[k]? = some (c, i) ∧ (wsT ad cI cR τ)[k]? = some (ad c i, cE ad cI cR τ c i) := by
  obtain ⟨k, hk⟩ := List.getElem?_of_mem (cellsL_mem h hc)
  exact ⟨k, hk, by unfold wsT; rw [List.getElem?_map, hk]; rfl⟩
theorem wsT_set {ad : Nat → Int → Nat} {cI : ClassId} {cR : Nat → ClassId} {τ τ' : Mm} {c : Nat} {i : Int} {k : Nat} (hk : cellsL[k]? = some (c, i)) {x : va_E} (hx : cE ad cI cR τ' c i = x)
    (hne : ∀ (c' : Nat) (i' : Int), ¬ (c' = c ∧ i' = i) → ∀ j : Int, τ' c' i' j = τ c' i' j) : (wsT ad cI cR τ).set k (ad c i, x) = wsT ad cI cR τ' := by
  have hlt := (List.getElem?_eq_some_iff.mp hk).1
  apply List.ext_getElem?
  intro n
  by_cases hn : k = n
  · subst hn
    unfold wsT
    rw [List.getElem?_set_self (by simpa using hlt), List.getElem?_map, hk, ← hx]
    rfl
  · rw [List.getElem?_set_ne hn]
    unfold wsT
    rw [List.getElem?_map, List.getElem?_map]
    cases hq : cellsL[n]? with
    | none => rfl
    | some q =>
      obtain ⟨c', i'⟩ := q
      have hd : ¬ (c' = c ∧ i' = i) := by
        rintro ⟨rfl, rfl⟩
        have h1 := List.getElem?_eq_some_iff.mp hk
        have h2 := List.getElem?_eq_some_iff.mp hq
        exact hn (List.getElem_inj (h₀ := h1.1) (h₁ := h2.1) cellsL_nd |>.mp (h1.2.trans h2.2.symm))
      have e := hne c' i' hd
      have e2 : cE ad cI cR τ c' i' = cE ad cI cR τ' c' i' := by
        unfold cE
        split
        · congr 2
          apply List.map_congr_left
          intro k _
          unfold fval
          rw [e]
        · congr 4
          funext j
          rw [e]
        · rfl
      simp [e2]
/-- one place gets another number -/
def mu (τ : Mm) (c : Nat) (i j v : Int) : Mm := fun c' i' j' => if c' = c ∧ i' = i ∧ j' = j then v else τ c' i' j'
/-- a stretch is copied -/
def cpy (τ : Mm) (c0 : Nat) (i0 sp : Int) (c1 : Nat) (i1 dp n : Int) : Mm := fun c i j => if c = c1 ∧ i = i1 ∧ dp ≤ j ∧ j < dp + n then τ c0 i0 (sp + (j - dp)) else τ c i j
theorem mu_self (τ : Mm) (c : Nat) (i j v : Int) : mu τ c i j v c i j = v := if_pos ⟨rfl, rfl, rfl⟩
theorem mu_ne {τ : Mm} {c c' : Nat} {i i' j j' v : Int} (h : ¬ (c' = c ∧ i' = i ∧ j' = j)) : mu τ c i j v c' i' j' = τ c' i' j' := if_neg h
def numF (j : Int) : Int := match j with
  | 0 => 4 | 1 => 2 | 2 => 2 | 3 => 4 | 4 => 5 | 5 => 4 | 6 => 7 | 7 => 5 | 8 => 3 | _ => 1
/-- what the memory's numbers are: ints, all -/
def rgF (τ : Mm) : Prop := ∀ (c : Nat) (i j : Int), inR (τ c i j)
theorem rgF_mu {τ : Mm} {c : Nat} {i j v : Int} (h : rgF τ) (hv : inR v) : rgF (mu τ c i j v) := fun c' i' j' => by
  unfold mu
  split
  · exact hv
  · exact h _ _ _
theorem rgF_cpy {τ : Mm} {c0 : Nat} {i0 sp : Int} {c1 : Nat} {i1 dp n : Int} (h : rgF τ) : rgF (cpy τ c0 i0 sp c1 i1 dp n) := fun c' i' j' => by
  unfold cpy
  split
  · exact h _ _ _
  · exact h _ _ _
/-- the world's cells hold the memory; the script's own row is what the memory says -/
def Wf (ad : Nat → Int → Nat) (cI : ClassId) (cR : Nat → ClassId) (D : va_G) (scr : Cell) (τ : Mm) (H : Heap) : Prop :=
  va_P D vwCl (wsT ad cI cR τ) H ∧ (scr.slots.size : Int) = τ 0 0 (-1) ∧ ∀ j : Nat, j < scr.slots.size → scr.slots[j]? = some (.int (i3 (τ 0 0 (j : Int))))
/-- what stays as it is: the tables, the script's cell, the row NUMBERS -/
def CF (ad : Nat → Int → Nat) (cI : ClassId) (cR : Nat → ClassId) (D : va_G) (scr num : Cell) (A : Nat → Prop) (U : State) : Prop :=
  va_K D vwCl (tysT cI cR) U ∧ (∀ τ : Mm, va_D A (wsT ad cI cR τ)) ∧
  (U.heap[ad 0 0]? = some scr ∧ ¬ A (ad 0 0) ∧ U.isArrayOf scr .int ∧ scr.vm ≠ .unknown) ∧
  (U.heap[ad 1 0]? = some num ∧ ¬ A (ad 1 0) ∧ U.isArrayOf num .int ∧ num.vm ≠ .unknown ∧ 10 ≤ num.slots.size ∧ ∀ j : Nat, j < 10 → num.slots[j]? = some (.int (i3 (numF (j : Int))))) ∧
  va_Z RX5 "NUMBERS" "[I" (.ref (ad 1 0)) A U U.heap
theorem CF.moved {ad : Nat → Int → Nat} {cI : ClassId} {cR : Nat → ClassId} {D : va_G} {scr num : Cell} {A : Nat → Prop} {u U : State} (h : CF ad cI cR D scr num A u) (hvm : u.vm.Alike U.vm) (hh : ∀ q : Nat, q < u.heap.size → ¬ A q → U.heap[q]? = u.heap[q]?) : CF ad cI cR D scr num A U := by
  obtain ⟨h1, h2, ⟨h3, h4, h5, h6⟩, ⟨h7, h8, h9, h10, h11⟩, h12⟩ := h
  refine ⟨h1.moved hvm, h2, ⟨?_, h4, State.isArrayOf_alike hvm h5, h6⟩, ⟨?_, h8, State.isArrayOf_alike hvm h9, h10, h11⟩, (h12.moved hvm).kept hh⟩
  · rw [hh _ (Array.getElem?_eq_some_iff.mp h3).1 h4]
    exact h3
  · rw [hh _ (Array.getElem?_eq_some_iff.mp h7).1 h8]
    exact h7
